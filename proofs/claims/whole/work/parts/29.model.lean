abbrev rm_X6_acted : Room := { frames := 0, cells := 0, slots := 0, locals := 0 }
set_option maxHeartbeats 4000000 in
set_option maxRecDepth 100000 in
theorem c_X6_acted (l : Launch) (D : va_G) (cI cC cT : ClassId) (h0 h1 h2 h3 h4 h5 h6 h7 h8 h9 h10 : Nat) (hlg : Int32) (tk : Int32) (fx : Int32) (xl : Int32) (xp : Int32) (rmn : Int32) (hdn : Int32) (few : Int32) (mst : Int32) (fal : Int32) (al : Nat → Int32) (sv : Nat → Int32) (hi : Nat → Int32) (sn : Nat → Int32) (ch : Nat → Int32) (my : Nat → Int32) (kp : Nat → Int32) (tx : Nat → Int32) (rd : Nat → Int32) (wy : Nat → Int32) (sz : Nat) (p0 : Int32) (out : Int32) (o_hlg : Int32) (o_hi : Nat → Int32) (hf : f_X6_acted hlg sv hi p0 = some ((out, o_hlg, o_hi))) : Met l yX6_acted wsX6_acted rm_X6_acted (mP D (mTY cI cC cT) [.ref h0, .int p0] (List.flatten [(W_M cI cC cT h0 h1 h2 h3 h4 h5 h6 h7 h8 h9 h10 hlg tk fx xl xp rmn hdn few mst fal al sv hi sn ch my kp tx rd wy)]) sz) (mQi D (mTY cI cC cT) out (va_A (List.flatten [(W_M cI cC cT h0 h1 h2 h3 h4 h5 h6 h7 h8 h9 h10 hlg tk fx xl xp rmn hdn few mst fal al sv hi sn ch my kp tx rd wy)]) sz) (List.flatten [(W_M cI cC cT h0 h1 h2 h3 h4 h5 h6 h7 h8 h9 h10 o_hlg tk fx xl xp rmn hdn few mst fal al sv o_hi sn ch my kp tx rd wy)])) 0 0 (va_A (List.flatten [(W_M cI cC cT h0 h1 h2 h3 h4 h5 h6 h7 h8 h9 h10 hlg tk fx xl xp rmn hdn few mst fal al sv hi sn ch my kp tx rd wy)]) sz) := by
  refine mEnt (cc := cX6_acted) (maxL := 3) (ret := (some .int)) (own := RX6) (Qq := fun A => mQi D (mTY cI cC cT) out A (List.flatten [(W_M cI cC cT h0 h1 h2 h3 h4 h5 h6 h7 h8 h9 h10 o_hlg tk fx xl xp rmn hdn few mst fal al sv o_hi sn ch my kp tx rd wy)])) (by decide) rfl rfl (Nat.le_of_ble_eq_true rfl) ?_
  intro p e s m below meth c A ls H locs hx hb hr hml hlocks hown hts hN hA hP hK hD hS hl
  have hin_X6 : ∀ w ∈ u_ws RX6 TX6 20, w ∈ wsX6_acted := by decide +kernel
  have fl_13 := hts (.fieldLink RX6 13 "SureMendingsModel" "saved" "[I") (by decide +kernel)
  have fl_16 := hts (.fieldLink RX6 16 "SureMendingsModel" "history" "[I") (by decide +kernel)
  have fl_44 := hts (.fieldLink RX6 44 "SureMendingsModel" "historyLong" "I") (by decide +kernel)
  have hl : lv_has ls 3 [(0, .ref h0), (1, .int p0)] := hl
  unfold f_X6_acted at hf
  refine lv_aload_n hx hb dX6_acted_0 rfl (lv_at hl 0 rfl) ?_
  refine va_get (D := D) (ci := 6) (v := .int hlg) (C := RX6) (T := TX6) (N := 20) hx hb hts hin_X6 hown hK hP 0 rfl rfl 3 (by decide) fl_44 (fun _ h9 => h9) rfl dX6_acted_1 ?_
  refine lv_iconst (v := 4) hx hb dX6_acted_4 (by decide) ?_
  refine lv_icmp_ne (tgt := 48) hx hb dX6_acted_5 (by decide) (fun c_1 => ?_) (fun c_1 => ?_)
  · have hf := ite_f hf c_1
    refine lv_iconst (v := 0) hx hb dX6_acted_48 (by decide) ?_
    refine lv_istore_n (lv' := [(2, .int 0), (0, .ref h0), (1, .int p0)]) hx hb dX6_acted_49 rfl hl (by decide) rfl (fun ls hl => ?_)
    have LP_4 : ∀ (n_4 : Nat) (v2_2 : Int32) (hi_3 : Nat → Int32), iter n_4 (b_X6_acted_1 hlg sv p0) ((v2_2, hi_3)) = some ((out, o_hlg, o_hi)) → ∀ (H : Heap) (locs : List Loc), va_P D vwCl (List.flatten [(W_M cI cC cT h0 h1 h2 h3 h4 h5 h6 h7 h8 h9 h10 hlg tk fx xl xp rmn hdn few mst fal al sv hi_3 sn ch my kp tx rd wy)]) H → va_D A (List.flatten [(W_M cI cC cT h0 h1 h2 h3 h4 h5 h6 h7 h8 h9 h10 hlg tk fx xl xp rmn hdn few mst fal al sv hi_3 sn ch my kp tx rd wy)]) → va_S A s.heap H locs → ∀ (ls : Array Slot), lv_has ls 3 [(0, .ref h0), (1, .int p0), (2, .int v2_2)] → W p l e rm_X6_acted s m ([.ref h0, .int p0] : List Value).toArray below meth c H locs 0 0 (MQ below (mQi D (mTY cI cC cT) out A (List.flatten [(W_M cI cC cT h0 h1 h2 h3 h4 h5 h6 h7 h8 h9 h10 o_hlg tk fx xl xp rmn hdn few mst fal al sv o_hi sn ch my kp tx rd wy)])) ([.ref h0, .int p0] : List Value).toArray s 0 0 A) (F0 m 50 ls []) := by
      intro n_4
      induction n_4 with
      | zero => intro v2_2 hi_3 hf; exact (iter_zero hf).elim
      | succ n_4 ih_4 =>
        intro v2_2 hi_3 hf H locs hP hD hS ls hl
        obtain ⟨o_4, hf, ho_4⟩ := iter_succ hf
        dsimp only [b_X6_acted_1] at hf
        refine lv_iload_n hx hb dX6_acted_50 rfl (lv_at hl 2 rfl) ?_
        refine lv_bipush (v := 82) hx hb dX6_acted_51 (by decide) ?_
        refine lv_icmp_ge (tgt := 82) hx hb dX6_acted_53 (by decide) (fun c_5 => ?_) (fun c_5 => ?_)
        · have hf := ite_t hf c_5
          refine lv_aload_n hx hb dX6_acted_82 rfl (lv_at hl 0 rfl) ?_
          refine lv_dup hx hb dX6_acted_83 rfl ?_
          refine va_get (D := D) (ci := 6) (v := .int hlg) (C := RX6) (T := TX6) (N := 20) hx hb hts hin_X6 hown hK hP 0 rfl rfl 3 (by decide) fl_44 (fun _ h9 => h9) rfl dX6_acted_84 ?_
          refine lv_iconst (v := 1) hx hb dX6_acted_87 (by decide) ?_
          refine lv_iadd hx hb dX6_acted_88 ?_
          refine va_put (D := D) (ci := 6) (v := .int (hlg + 1)) (ty := .int) (C := RX6) (T := TX6) (N := 20) hx hb hts hin_X6 tyX6 tyX6_ok nmX6 hown hK hP hD hS 0 rfl rfl 3 (by decide) fl_44 (fun _ h9 => h9) rfl (by decide +kernel) rfl rfl (Nat.le_of_ble_eq_true rfl) dX6_acted_89 (fun H locs hP hD hS => ?_)
          have hP : va_P D vwCl (List.flatten [(W_M cI cC cT h0 h1 h2 h3 h4 h5 h6 h7 h8 h9 h10 (hlg + 1) tk fx xl xp rmn hdn few mst fal al sv hi_3 sn ch my kp tx rd wy)]) H := hP
          have hD : va_D A (List.flatten [(W_M cI cC cT h0 h1 h2 h3 h4 h5 h6 h7 h8 h9 h10 (hlg + 1) tk fx xl xp rmn hdn few mst fal al sv hi_3 sn ch my kp tx rd wy)]) := hD
          refine lv_iload_n hx hb dX6_acted_92 rfl (lv_at hl 1 rfl) ?_
          cases hf
          have hf := ho_4.2 _ rfl
          cases hf
          exact mIret hx hb hr hlocks hP hD hK hS dX6_acted_93
        · have hf := ite_f hf c_5
          refine lv_aload_n hx hb dX6_acted_56 rfl (lv_at hl 0 rfl) ?_
          refine va_get (D := D) (ci := 6) (v := .ref h3) (C := RX6) (T := TX6) (N := 20) hx hb hts hin_X6 hown hK hP 0 rfl rfl 2 (by decide) fl_16 (fun _ h9 => h9) rfl dX6_acted_57 ?_
          refine lv_bipush (v := 82) hx hb dX6_acted_60 (by decide) ?_
          refine lv_aload_n hx hb dX6_acted_62 rfl (lv_at hl 0 rfl) ?_
          refine va_get (D := D) (ci := 6) (v := .int hlg) (C := RX6) (T := TX6) (N := 20) hx hb hts hin_X6 hown hK hP 0 rfl rfl 3 (by decide) fl_44 (fun _ h9 => h9) rfl dX6_acted_63 ?_
          refine lv_imul hx hb dX6_acted_66 ?_
          refine lv_iload_n hx hb dX6_acted_67 rfl (lv_at hl 2 rfl) ?_
          refine lv_iadd hx hb dX6_acted_68 ?_
          refine lv_aload_n hx hb dX6_acted_69 rfl (lv_at hl 0 rfl) ?_
          refine va_get (D := D) (ci := 6) (v := .ref h2) (C := RX6) (T := TX6) (N := 20) hx hb hts hin_X6 hown hK hP 0 rfl rfl 1 (by decide) fl_13 (fun _ h9 => h9) rfl dX6_acted_70 ?_
          refine lv_iload_n hx hb dX6_acted_73 rfl (lv_at hl 2 rfl) ?_
          obtain ⟨h_6, hf⟩ := grd hf
          refine va_iald hx hb hK hP 2 0 rfl rfl h_6 dX6_acted_74 ?_
          obtain ⟨h_7, hf⟩ := grd hf
          refine va_iast hx hb hK hP hD hS 3 0 rfl rfl h_7 dX6_acted_75 (fun H locs hP hD hS => ?_)
          have hP : va_P D vwCl (List.flatten [(W_M cI cC cT h0 h1 h2 h3 h4 h5 h6 h7 h8 h9 h10 hlg tk fx xl xp rmn hdn few mst fal al sv (upd hi_3 ((82 * hlg) + v2_2).toNatClampNeg (sv v2_2.toNatClampNeg)) sn ch my kp tx rd wy)]) H := hP
          have hD : va_D A (List.flatten [(W_M cI cC cT h0 h1 h2 h3 h4 h5 h6 h7 h8 h9 h10 hlg tk fx xl xp rmn hdn few mst fal al sv (upd hi_3 ((82 * hlg) + v2_2).toNatClampNeg (sv v2_2.toNatClampNeg)) sn ch my kp tx rd wy)]) := hD
          refine lv_iinc (v := v2_2 + 1) (lv' := [(2, .int (v2_2 + 1)), (0, .ref h0), (1, .int p0)]) hx hb dX6_acted_76 hl (k := 2) rfl rfl (by decide) rfl (fun ls hl => ?_)
          refine lv_goto (tgt := 50) hx hb dX6_acted_79 (by decide) ?_
          cases hf
          have hf := ho_4.1 _ rfl
          exact ih_4 _ _ hf _ _ hP hD hS _ (lv_sub hl [1, 2, 0] rfl)
    exact LP_4 _ _ _ hf _ _ hP hD hS _ (lv_sub hl [1, 2, 0] rfl)
  · have hf := ite_t hf c_1
    refine lv_iconst (v := 0) hx hb dX6_acted_8 (by decide) ?_
    refine lv_istore_n (lv' := [(2, .int 0), (0, .ref h0), (1, .int p0)]) hx hb dX6_acted_9 rfl hl (by decide) rfl (fun ls hl => ?_)
    have LP_10 : ∀ (n_10 : Nat) (v2_8 : Int32) (hi_9 : Nat → Int32), iter n_10 (b_X6_acted_3 hlg sv p0) ((v2_8, hi_9)) = some ((out, o_hlg, o_hi)) → ∀ (H : Heap) (locs : List Loc), va_P D vwCl (List.flatten [(W_M cI cC cT h0 h1 h2 h3 h4 h5 h6 h7 h8 h9 h10 hlg tk fx xl xp rmn hdn few mst fal al sv hi_9 sn ch my kp tx rd wy)]) H → va_D A (List.flatten [(W_M cI cC cT h0 h1 h2 h3 h4 h5 h6 h7 h8 h9 h10 hlg tk fx xl xp rmn hdn few mst fal al sv hi_9 sn ch my kp tx rd wy)]) → va_S A s.heap H locs → ∀ (ls : Array Slot), lv_has ls 3 [(0, .ref h0), (1, .int p0), (2, .int v2_8)] → W p l e rm_X6_acted s m ([.ref h0, .int p0] : List Value).toArray below meth c H locs 0 0 (MQ below (mQi D (mTY cI cC cT) out A (List.flatten [(W_M cI cC cT h0 h1 h2 h3 h4 h5 h6 h7 h8 h9 h10 o_hlg tk fx xl xp rmn hdn few mst fal al sv o_hi sn ch my kp tx rd wy)])) ([.ref h0, .int p0] : List Value).toArray s 0 0 A) (F0 m 10 ls []) := by
      intro n_10
      induction n_10 with
      | zero => intro v2_8 hi_9 hf; exact (iter_zero hf).elim
      | succ n_10 ih_10 =>
        intro v2_8 hi_9 hf H locs hP hD hS ls hl
        obtain ⟨o_10, hf, ho_10⟩ := iter_succ hf
        dsimp only [b_X6_acted_3] at hf
        refine lv_iload_n hx hb dX6_acted_10 rfl (lv_at hl 2 rfl) ?_
        refine lv_sipush (v := 246) hx hb dX6_acted_11 (by decide) ?_
        refine lv_icmp_ge (tgt := 38) hx hb dX6_acted_14 (by decide) (fun c_11 => ?_) (fun c_11 => ?_)
        · have hf := ite_t hf c_11
          refine lv_aload_n hx hb dX6_acted_38 rfl (lv_at hl 0 rfl) ?_
          refine lv_dup hx hb dX6_acted_39 rfl ?_
          refine va_get (D := D) (ci := 6) (v := .int hlg) (C := RX6) (T := TX6) (N := 20) hx hb hts hin_X6 hown hK hP 0 rfl rfl 3 (by decide) fl_44 (fun _ h9 => h9) rfl dX6_acted_40 ?_
          refine lv_iconst (v := 1) hx hb dX6_acted_43 (by decide) ?_
          refine lv_isub hx hb dX6_acted_44 ?_
          refine va_put (D := D) (ci := 6) (v := .int (hlg - 1)) (ty := .int) (C := RX6) (T := TX6) (N := 20) hx hb hts hin_X6 tyX6 tyX6_ok nmX6 hown hK hP hD hS 0 rfl rfl 3 (by decide) fl_44 (fun _ h9 => h9) rfl (by decide +kernel) rfl rfl (Nat.le_of_ble_eq_true rfl) dX6_acted_45 (fun H locs hP hD hS => ?_)
          have hP : va_P D vwCl (List.flatten [(W_M cI cC cT h0 h1 h2 h3 h4 h5 h6 h7 h8 h9 h10 (hlg - 1) tk fx xl xp rmn hdn few mst fal al sv hi_9 sn ch my kp tx rd wy)]) H := hP
          have hD : va_D A (List.flatten [(W_M cI cC cT h0 h1 h2 h3 h4 h5 h6 h7 h8 h9 h10 (hlg - 1) tk fx xl xp rmn hdn few mst fal al sv hi_9 sn ch my kp tx rd wy)]) := hD
          refine lv_iconst (v := 0) hx hb dX6_acted_48 (by decide) ?_
          refine lv_istore_n (lv' := [(2, .int 0), (0, .ref h0), (1, .int p0)]) hx hb dX6_acted_49 rfl hl (by decide) rfl (fun ls hl => ?_)
          have LP_14 : ∀ (n_14 : Nat) (v2_12 : Int32) (hi_13 : Nat → Int32), iter n_14 (b_X6_acted_2 hlg sv p0) ((v2_12, hi_13)) = some o_10 → ∀ (H : Heap) (locs : List Loc), va_P D vwCl (List.flatten [(W_M cI cC cT h0 h1 h2 h3 h4 h5 h6 h7 h8 h9 h10 (hlg - 1) tk fx xl xp rmn hdn few mst fal al sv hi_13 sn ch my kp tx rd wy)]) H → va_D A (List.flatten [(W_M cI cC cT h0 h1 h2 h3 h4 h5 h6 h7 h8 h9 h10 (hlg - 1) tk fx xl xp rmn hdn few mst fal al sv hi_13 sn ch my kp tx rd wy)]) → va_S A s.heap H locs → ∀ (ls : Array Slot), lv_has ls 3 [(0, .ref h0), (1, .int p0), (2, .int v2_12)] → W p l e rm_X6_acted s m ([.ref h0, .int p0] : List Value).toArray below meth c H locs 0 0 (MQ below (mQi D (mTY cI cC cT) out A (List.flatten [(W_M cI cC cT h0 h1 h2 h3 h4 h5 h6 h7 h8 h9 h10 o_hlg tk fx xl xp rmn hdn few mst fal al sv o_hi sn ch my kp tx rd wy)])) ([.ref h0, .int p0] : List Value).toArray s 0 0 A) (F0 m 50 ls []) := by
            intro n_14
            induction n_14 with
            | zero => intro v2_12 hi_13 hf; exact (iter_zero hf).elim
            | succ n_14 ih_14 =>
              intro v2_12 hi_13 hf H locs hP hD hS ls hl
              obtain ⟨o_14, hf, ho_14⟩ := iter_succ hf
              dsimp only [b_X6_acted_2] at hf
              refine lv_iload_n hx hb dX6_acted_50 rfl (lv_at hl 2 rfl) ?_
              refine lv_bipush (v := 82) hx hb dX6_acted_51 (by decide) ?_
              refine lv_icmp_ge (tgt := 82) hx hb dX6_acted_53 (by decide) (fun c_15 => ?_) (fun c_15 => ?_)
              · have hf := ite_t hf c_15
                refine lv_aload_n hx hb dX6_acted_82 rfl (lv_at hl 0 rfl) ?_
                refine lv_dup hx hb dX6_acted_83 rfl ?_
                refine va_get (D := D) (ci := 6) (v := .int (hlg - 1)) (C := RX6) (T := TX6) (N := 20) hx hb hts hin_X6 hown hK hP 0 rfl rfl 3 (by decide) fl_44 (fun _ h9 => h9) rfl dX6_acted_84 ?_
                refine lv_iconst (v := 1) hx hb dX6_acted_87 (by decide) ?_
                refine lv_iadd hx hb dX6_acted_88 ?_
                refine va_put (D := D) (ci := 6) (v := .int ((hlg - 1) + 1)) (ty := .int) (C := RX6) (T := TX6) (N := 20) hx hb hts hin_X6 tyX6 tyX6_ok nmX6 hown hK hP hD hS 0 rfl rfl 3 (by decide) fl_44 (fun _ h9 => h9) rfl (by decide +kernel) rfl rfl (Nat.le_of_ble_eq_true rfl) dX6_acted_89 (fun H locs hP hD hS => ?_)
                have hP : va_P D vwCl (List.flatten [(W_M cI cC cT h0 h1 h2 h3 h4 h5 h6 h7 h8 h9 h10 ((hlg - 1) + 1) tk fx xl xp rmn hdn few mst fal al sv hi_13 sn ch my kp tx rd wy)]) H := hP
                have hD : va_D A (List.flatten [(W_M cI cC cT h0 h1 h2 h3 h4 h5 h6 h7 h8 h9 h10 ((hlg - 1) + 1) tk fx xl xp rmn hdn few mst fal al sv hi_13 sn ch my kp tx rd wy)]) := hD
                refine lv_iload_n hx hb dX6_acted_92 rfl (lv_at hl 1 rfl) ?_
                cases hf
                have hf := ho_14.2 _ rfl
                cases hf
                have hf := ho_10.2 _ rfl
                cases hf
                exact mIret hx hb hr hlocks hP hD hK hS dX6_acted_93
              · have hf := ite_f hf c_15
                refine lv_aload_n hx hb dX6_acted_56 rfl (lv_at hl 0 rfl) ?_
                refine va_get (D := D) (ci := 6) (v := .ref h3) (C := RX6) (T := TX6) (N := 20) hx hb hts hin_X6 hown hK hP 0 rfl rfl 2 (by decide) fl_16 (fun _ h9 => h9) rfl dX6_acted_57 ?_
                refine lv_bipush (v := 82) hx hb dX6_acted_60 (by decide) ?_
                refine lv_aload_n hx hb dX6_acted_62 rfl (lv_at hl 0 rfl) ?_
                refine va_get (D := D) (ci := 6) (v := .int (hlg - 1)) (C := RX6) (T := TX6) (N := 20) hx hb hts hin_X6 hown hK hP 0 rfl rfl 3 (by decide) fl_44 (fun _ h9 => h9) rfl dX6_acted_63 ?_
                refine lv_imul hx hb dX6_acted_66 ?_
                refine lv_iload_n hx hb dX6_acted_67 rfl (lv_at hl 2 rfl) ?_
                refine lv_iadd hx hb dX6_acted_68 ?_
                refine lv_aload_n hx hb dX6_acted_69 rfl (lv_at hl 0 rfl) ?_
                refine va_get (D := D) (ci := 6) (v := .ref h2) (C := RX6) (T := TX6) (N := 20) hx hb hts hin_X6 hown hK hP 0 rfl rfl 1 (by decide) fl_13 (fun _ h9 => h9) rfl dX6_acted_70 ?_
                refine lv_iload_n hx hb dX6_acted_73 rfl (lv_at hl 2 rfl) ?_
                obtain ⟨h_16, hf⟩ := grd hf
                refine va_iald hx hb hK hP 2 0 rfl rfl h_16 dX6_acted_74 ?_
                obtain ⟨h_17, hf⟩ := grd hf
                refine va_iast hx hb hK hP hD hS 3 0 rfl rfl h_17 dX6_acted_75 (fun H locs hP hD hS => ?_)
                have hP : va_P D vwCl (List.flatten [(W_M cI cC cT h0 h1 h2 h3 h4 h5 h6 h7 h8 h9 h10 (hlg - 1) tk fx xl xp rmn hdn few mst fal al sv (upd hi_13 ((82 * (hlg - 1)) + v2_12).toNatClampNeg (sv v2_12.toNatClampNeg)) sn ch my kp tx rd wy)]) H := hP
                have hD : va_D A (List.flatten [(W_M cI cC cT h0 h1 h2 h3 h4 h5 h6 h7 h8 h9 h10 (hlg - 1) tk fx xl xp rmn hdn few mst fal al sv (upd hi_13 ((82 * (hlg - 1)) + v2_12).toNatClampNeg (sv v2_12.toNatClampNeg)) sn ch my kp tx rd wy)]) := hD
                refine lv_iinc (v := v2_12 + 1) (lv' := [(2, .int (v2_12 + 1)), (0, .ref h0), (1, .int p0)]) hx hb dX6_acted_76 hl (k := 2) rfl rfl (by decide) rfl (fun ls hl => ?_)
                refine lv_goto (tgt := 50) hx hb dX6_acted_79 (by decide) ?_
                cases hf
                have hf := ho_14.1 _ rfl
                exact ih_14 _ _ hf _ _ hP hD hS _ (lv_sub hl [1, 2, 0] rfl)
          exact LP_14 _ _ _ hf _ _ hP hD hS _ (lv_sub hl [1, 2, 0] rfl)
        · have hf := ite_f hf c_11
          refine lv_aload_n hx hb dX6_acted_17 rfl (lv_at hl 0 rfl) ?_
          refine va_get (D := D) (ci := 6) (v := .ref h3) (C := RX6) (T := TX6) (N := 20) hx hb hts hin_X6 hown hK hP 0 rfl rfl 2 (by decide) fl_16 (fun _ h9 => h9) rfl dX6_acted_18 ?_
          refine lv_iload_n hx hb dX6_acted_21 rfl (lv_at hl 2 rfl) ?_
          refine lv_aload_n hx hb dX6_acted_22 rfl (lv_at hl 0 rfl) ?_
          refine va_get (D := D) (ci := 6) (v := .ref h3) (C := RX6) (T := TX6) (N := 20) hx hb hts hin_X6 hown hK hP 0 rfl rfl 2 (by decide) fl_16 (fun _ h9 => h9) rfl dX6_acted_23 ?_
          refine lv_iload_n hx hb dX6_acted_26 rfl (lv_at hl 2 rfl) ?_
          refine lv_bipush (v := 82) hx hb dX6_acted_27 (by decide) ?_
          refine lv_iadd hx hb dX6_acted_29 ?_
          obtain ⟨h_18, hf⟩ := grd hf
          refine va_iald hx hb hK hP 3 0 rfl rfl h_18 dX6_acted_30 ?_
          obtain ⟨h_19, hf⟩ := grd hf
          refine va_iast hx hb hK hP hD hS 3 0 rfl rfl h_19 dX6_acted_31 (fun H locs hP hD hS => ?_)
          have hP : va_P D vwCl (List.flatten [(W_M cI cC cT h0 h1 h2 h3 h4 h5 h6 h7 h8 h9 h10 hlg tk fx xl xp rmn hdn few mst fal al sv (upd hi_9 v2_8.toNatClampNeg (hi_9 (v2_8 + 82).toNatClampNeg)) sn ch my kp tx rd wy)]) H := hP
          have hD : va_D A (List.flatten [(W_M cI cC cT h0 h1 h2 h3 h4 h5 h6 h7 h8 h9 h10 hlg tk fx xl xp rmn hdn few mst fal al sv (upd hi_9 v2_8.toNatClampNeg (hi_9 (v2_8 + 82).toNatClampNeg)) sn ch my kp tx rd wy)]) := hD
          refine lv_iinc (v := v2_8 + 1) (lv' := [(2, .int (v2_8 + 1)), (0, .ref h0), (1, .int p0)]) hx hb dX6_acted_32 hl (k := 2) rfl rfl (by decide) rfl (fun ls hl => ?_)
          refine lv_goto (tgt := 10) hx hb dX6_acted_35 (by decide) ?_
          cases hf
          have hf := ho_10.1 _ rfl
          exact ih_10 _ _ hf _ _ hP hD hS _ (lv_sub hl [1, 2, 0] rfl)
    exact LP_10 _ _ _ hf _ _ hP hD hS _ (lv_sub hl [1, 2, 0] rfl)
abbrev rm_X6_in : Room := { frames := 0, cells := 0, slots := 0, locals := 0 }
set_option maxHeartbeats 4000000 in
set_option maxRecDepth 100000 in
theorem c_X6_in (l : Launch) (D : va_G) (cI cC cT : ClassId) (sz : Nat) (p0 : Int64) (p1 : Int64) (p2 : Int64) (out : Int32) (hf : f_X6_in p0 p1 p2 = some out) : Met l yX6_in wsX6_in rm_X6_in (mP D (mTY cI cC cT) [.long p0, .long p1, .long p2] ([] : va_W) sz) (mQi D (mTY cI cC cT) out (va_A ([] : va_W) sz) ([] : va_W)) 0 0 (va_A ([] : va_W) sz) := by
  refine mEnt (cc := cX6_in) (maxL := 6) (ret := (some .boolean)) (own := RX6) (Qq := fun A => mQi D (mTY cI cC cT) out A ([] : va_W)) (by decide) rfl rfl (Nat.le_of_ble_eq_true rfl) ?_
  intro p e s m below meth c A ls H locs hx hb hr hml hlocks hown hts hN hA hP hK hD hS hl
  have hl : lv_has ls 6 [(0, .long p0), (2, .long p1), (4, .long p2)] := hl
  unfold f_X6_in at hf
  refine lv_lload_n hx hb dX6_in_0 rfl (lv_at hl 0 rfl) ?_
  refine lv_lload_n hx hb dX6_in_1 rfl (lv_at hl 1 rfl) ?_
  refine W.lcmp hx hb dX6_in_2 ?_
  refine lv_if_lt (tgt := 17) hx hb dX6_in_3 (by decide) (fun c_1 => ?_) (fun c_1 => ?_)
  · have hf := ite_t hf c_1
    refine lv_iconst (v := 0) hx hb dX6_in_17 (by decide) ?_
    cases hf
    exact mZret hx hb hr rfl hlocks hP hD hK hS dX6_in_18
  · have hf := ite_f hf c_1
    refine lv_lload_n hx hb dX6_in_6 rfl (lv_at hl 0 rfl) ?_
    refine lv_lload hx hb dX6_in_7 (lv_at hl 2 rfl) ?_
    refine W.lcmp hx hb dX6_in_9 ?_
    refine lv_if_gt (tgt := 17) hx hb dX6_in_10 (by decide) (fun c_2 => ?_) (fun c_2 => ?_)
    · have hf := ite_t hf c_2
      refine lv_iconst (v := 0) hx hb dX6_in_17 (by decide) ?_
      cases hf
      exact mZret hx hb hr rfl hlocks hP hD hK hS dX6_in_18
    · have hf := ite_f hf c_2
      refine lv_iconst (v := 1) hx hb dX6_in_13 (by decide) ?_
      refine lv_goto (tgt := 18) hx hb dX6_in_14 (by decide) ?_
      cases hf
      exact mZret hx hb hr rfl hlocks hP hD hK hS dX6_in_18
abbrev rm_X6_isKey : Room := { frames := 1, cells := 0, slots := 0, locals := 25 }
set_option maxHeartbeats 4000000 in
set_option maxRecDepth 100000 in
theorem c_X6_isKey (l : Launch) (D : va_G) (cI cC cT : ClassId) (sz : Nat) (p0 : Int32) (out : Int32) (hf : f_X6_isKey p0 = some out) : Met l yX6_isKey wsX6_isKey rm_X6_isKey (mP D (mTY cI cC cT) [.int p0] ([] : va_W) sz) (mQi D (mTY cI cC cT) out (va_A ([] : va_W) sz) ([] : va_W)) 0 0 (va_A ([] : va_W) sz) := by
  refine mEnt (cc := cX6_isKey) (maxL := 1) (ret := (some .boolean)) (own := RX6) (Qq := fun A => mQi D (mTY cI cC cT) out A ([] : va_W)) (by decide) rfl rfl (Nat.le_of_ble_eq_true rfl) ?_
  intro p e s m below meth c A ls H locs hx hb hr hml hlocks hown hts hN hA hP hK hD hS hl
  have hl : lv_has ls 1 [(0, .int p0)] := hl
  unfold f_X6_isKey at hf
  refine lv_iload_n hx hb dX6_isKey_0 rfl (lv_at hl 0 rfl) ?_
  refine lv_i2l hx hb dX6_isKey_1 rfl ?_
  refine lv_lconst (v := 0) hx hb dX6_isKey_2 rfl ?_
  refine lv_ldc2 (v := 9) hx hb hown (hts (.constantLong RX6 51 (9)) (by decide +kernel)) dX6_isKey_3 ?_
  obtain ⟨r_1, q_2, hf⟩ := bnd hf
  refine mGoi (w2 := ([] : va_W)) (va_runS (As := [.long (Int32.toInt64 p0), .long 0, .long 9]) (rest := []) ⟨hx, hb, hml, hown, hts⟩ (c_X6_in l D cI cC cT H.size (Int32.toInt64 p0) 0 9 r_1 q_2) (va_cwS 3 hts gX6_isKey_X6_in rfl rfl rfl (by decide +kernel) ⟨Nat.le_of_ble_eq_true rfl, Nat.le_of_ble_eq_true rfl⟩) (mPreS hP hD hK hN [] rfl (by decide)) rfl rfl hl.1 rfl (lv_room (Nat.le_of_ble_eq_true rfl)) dX6_isKey_6 ⟨Nat.zero_le _, Nat.zero_le _⟩) hP hD hS hA [] rfl rfl rfl rfl (fun H locs hP hD hS => ?_)
  obtain ⟨h_3, hf⟩ := grd hf
  cases hf
  exact mZret hx hb hr (isB_narrow h_3) hlocks hP hD hK hS dX6_isKey_9
abbrev rm_X6_isValue : Room := { frames := 1, cells := 0, slots := 0, locals := 25 }
set_option maxHeartbeats 4000000 in
set_option maxRecDepth 100000 in
theorem c_X6_isValue (l : Launch) (D : va_G) (cI cC cT : ClassId) (sz : Nat) (p0 : Int32) (out : Int32) (hf : f_X6_isValue p0 = some out) : Met l yX6_isValue wsX6_isValue rm_X6_isValue (mP D (mTY cI cC cT) [.int p0] ([] : va_W) sz) (mQi D (mTY cI cC cT) out (va_A ([] : va_W) sz) ([] : va_W)) 0 0 (va_A ([] : va_W) sz) := by
  refine mEnt (cc := cX6_isValue) (maxL := 1) (ret := (some .boolean)) (own := RX6) (Qq := fun A => mQi D (mTY cI cC cT) out A ([] : va_W)) (by decide) rfl rfl (Nat.le_of_ble_eq_true rfl) ?_
  intro p e s m below meth c A ls H locs hx hb hr hml hlocks hown hts hN hA hP hK hD hS hl
  have hl : lv_has ls 1 [(0, .int p0)] := hl
  unfold f_X6_isValue at hf
  refine lv_iload_n hx hb dX6_isValue_0 rfl (lv_at hl 0 rfl) ?_
  refine lv_i2l hx hb dX6_isValue_1 rfl ?_
  refine lv_ldc2 (v := 97) hx hb hown (hts (.constantLong RX6 69 (97)) (by decide +kernel)) dX6_isValue_2 ?_
  refine lv_ldc2 (v := 104) hx hb hown (hts (.constantLong RX6 71 (104)) (by decide +kernel)) dX6_isValue_5 ?_
  obtain ⟨r_1, q_2, hf⟩ := bnd hf
  refine mGoi (w2 := ([] : va_W)) (va_runS (As := [.long (Int32.toInt64 p0), .long 97, .long 104]) (rest := []) ⟨hx, hb, hml, hown, hts⟩ (c_X6_in l D cI cC cT H.size (Int32.toInt64 p0) 97 104 r_1 q_2) (va_cwS 3 hts gX6_isValue_X6_in rfl rfl rfl (by decide +kernel) ⟨Nat.le_of_ble_eq_true rfl, Nat.le_of_ble_eq_true rfl⟩) (mPreS hP hD hK hN [] rfl (by decide)) rfl rfl hl.1 rfl (lv_room (Nat.le_of_ble_eq_true rfl)) dX6_isValue_8 ⟨Nat.zero_le _, Nat.zero_le _⟩) hP hD hS hA [] rfl rfl rfl rfl (fun H locs hP hD hS => ?_)
  obtain ⟨h_3, hf⟩ := grd hf
  cases hf
  exact mZret hx hb hr (isB_narrow h_3) hlocks hP hD hK hS dX6_isValue_11
abbrev rm_X6_remember : Room := { frames := 0, cells := 0, slots := 0, locals := 0 }
set_option maxHeartbeats 4000000 in
set_option maxRecDepth 100000 in
theorem c_X6_remember (l : Launch) (D : va_G) (cI cC cT : ClassId) (h0 h1 h2 h3 h4 h5 h6 h7 h8 h9 h10 : Nat) (hlg : Int32) (tk : Int32) (fx : Int32) (xl : Int32) (xp : Int32) (rmn : Int32) (hdn : Int32) (few : Int32) (mst : Int32) (fal : Int32) (al : Nat → Int32) (sv : Nat → Int32) (hi : Nat → Int32) (sn : Nat → Int32) (ch : Nat → Int32) (my : Nat → Int32) (kp : Nat → Int32) (tx : Nat → Int32) (rd : Nat → Int32) (wy : Nat → Int32) (sz : Nat) (o_sv : Nat → Int32) (hf : f_X6_remember al sv = some o_sv) : Met l yX6_remember wsX6_remember rm_X6_remember (mP D (mTY cI cC cT) [.ref h0] (List.flatten [(W_M cI cC cT h0 h1 h2 h3 h4 h5 h6 h7 h8 h9 h10 hlg tk fx xl xp rmn hdn few mst fal al sv hi sn ch my kp tx rd wy)]) sz) (mQv D (mTY cI cC cT) (va_A (List.flatten [(W_M cI cC cT h0 h1 h2 h3 h4 h5 h6 h7 h8 h9 h10 hlg tk fx xl xp rmn hdn few mst fal al sv hi sn ch my kp tx rd wy)]) sz) (List.flatten [(W_M cI cC cT h0 h1 h2 h3 h4 h5 h6 h7 h8 h9 h10 hlg tk fx xl xp rmn hdn few mst fal al o_sv hi sn ch my kp tx rd wy)])) 0 0 (va_A (List.flatten [(W_M cI cC cT h0 h1 h2 h3 h4 h5 h6 h7 h8 h9 h10 hlg tk fx xl xp rmn hdn few mst fal al sv hi sn ch my kp tx rd wy)]) sz) := by
  refine mEnt (cc := cX6_remember) (maxL := 2) (ret := none) (own := RX6) (Qq := fun A => mQv D (mTY cI cC cT) A (List.flatten [(W_M cI cC cT h0 h1 h2 h3 h4 h5 h6 h7 h8 h9 h10 hlg tk fx xl xp rmn hdn few mst fal al o_sv hi sn ch my kp tx rd wy)])) (by decide) rfl rfl (Nat.le_of_ble_eq_true rfl) ?_
  intro p e s m below meth c A ls H locs hx hb hr hml hlocks hown hts hN hA hP hK hD hS hl
  have hin_X6 : ∀ w ∈ u_ws RX6 TX6 20, w ∈ wsX6_remember := by decide +kernel
  have fl_7 := hts (.fieldLink RX6 7 "SureMendingsModel" "all" "[I") (by decide +kernel)
  have fl_13 := hts (.fieldLink RX6 13 "SureMendingsModel" "saved" "[I") (by decide +kernel)
  have hl : lv_has ls 2 [(0, .ref h0)] := hl
  unfold f_X6_remember at hf
  refine lv_iconst (v := 0) hx hb dX6_remember_0 (by decide) ?_
  refine lv_istore_n (lv' := [(1, .int 0), (0, .ref h0)]) hx hb dX6_remember_1 rfl hl (by decide) rfl (fun ls hl => ?_)
  have LP_3 : ∀ (n_3 : Nat) (v1_1 : Int32) (sv_2 : Nat → Int32), iter n_3 (b_X6_remember_1 al) ((v1_1, sv_2)) = some o_sv → ∀ (H : Heap) (locs : List Loc), va_P D vwCl (List.flatten [(W_M cI cC cT h0 h1 h2 h3 h4 h5 h6 h7 h8 h9 h10 hlg tk fx xl xp rmn hdn few mst fal al sv_2 hi sn ch my kp tx rd wy)]) H → va_D A (List.flatten [(W_M cI cC cT h0 h1 h2 h3 h4 h5 h6 h7 h8 h9 h10 hlg tk fx xl xp rmn hdn few mst fal al sv_2 hi sn ch my kp tx rd wy)]) → va_S A s.heap H locs → ∀ (ls : Array Slot), lv_has ls 2 [(0, .ref h0), (1, .int v1_1)] → W p l e rm_X6_remember s m ([.ref h0] : List Value).toArray below meth c H locs 0 0 (MQ below (mQv D (mTY cI cC cT) A (List.flatten [(W_M cI cC cT h0 h1 h2 h3 h4 h5 h6 h7 h8 h9 h10 hlg tk fx xl xp rmn hdn few mst fal al o_sv hi sn ch my kp tx rd wy)])) ([.ref h0] : List Value).toArray s 0 0 A) (F0 m 2 ls []) := by
    intro n_3
    induction n_3 with
    | zero => intro v1_1 sv_2 hf; exact (iter_zero hf).elim
    | succ n_3 ih_3 =>
      intro v1_1 sv_2 hf H locs hP hD hS ls hl
      obtain ⟨o_3, hf, ho_3⟩ := iter_succ hf
      dsimp only [b_X6_remember_1] at hf
      refine lv_iload_n hx hb dX6_remember_2 rfl (lv_at hl 1 rfl) ?_
      refine lv_bipush (v := 82) hx hb dX6_remember_3 (by decide) ?_
      refine lv_icmp_ge (tgt := 26) hx hb dX6_remember_5 (by decide) (fun c_4 => ?_) (fun c_4 => ?_)
      · have hf := ite_t hf c_4
        cases hf
        have hf := ho_3.2 _ rfl
        cases hf
        exact mVret hx hb hr hlocks hP hD hK hS dX6_remember_26
      · have hf := ite_f hf c_4
        refine lv_aload_n hx hb dX6_remember_8 rfl (lv_at hl 0 rfl) ?_
        refine va_get (D := D) (ci := 6) (v := .ref h2) (C := RX6) (T := TX6) (N := 20) hx hb hts hin_X6 hown hK hP 0 rfl rfl 1 (by decide) fl_13 (fun _ h9 => h9) rfl dX6_remember_9 ?_
        refine lv_iload_n hx hb dX6_remember_12 rfl (lv_at hl 1 rfl) ?_
        refine lv_aload_n hx hb dX6_remember_13 rfl (lv_at hl 0 rfl) ?_
        refine va_get (D := D) (ci := 6) (v := .ref h1) (C := RX6) (T := TX6) (N := 20) hx hb hts hin_X6 hown hK hP 0 rfl rfl 0 (by decide) fl_7 (fun _ h9 => h9) rfl dX6_remember_14 ?_
        refine lv_iload_n hx hb dX6_remember_17 rfl (lv_at hl 1 rfl) ?_
        obtain ⟨h_5, hf⟩ := grd hf
        refine va_iald hx hb hK hP 1 0 rfl rfl h_5 dX6_remember_18 ?_
        obtain ⟨h_6, hf⟩ := grd hf
        refine va_iast hx hb hK hP hD hS 2 0 rfl rfl h_6 dX6_remember_19 (fun H locs hP hD hS => ?_)
        have hP : va_P D vwCl (List.flatten [(W_M cI cC cT h0 h1 h2 h3 h4 h5 h6 h7 h8 h9 h10 hlg tk fx xl xp rmn hdn few mst fal al (upd sv_2 v1_1.toNatClampNeg (al v1_1.toNatClampNeg)) hi sn ch my kp tx rd wy)]) H := hP
        have hD : va_D A (List.flatten [(W_M cI cC cT h0 h1 h2 h3 h4 h5 h6 h7 h8 h9 h10 hlg tk fx xl xp rmn hdn few mst fal al (upd sv_2 v1_1.toNatClampNeg (al v1_1.toNatClampNeg)) hi sn ch my kp tx rd wy)]) := hD
        refine lv_iinc (v := v1_1 + 1) (lv' := [(1, .int (v1_1 + 1)), (0, .ref h0)]) hx hb dX6_remember_20 hl (k := 1) rfl rfl (by decide) rfl (fun ls hl => ?_)
        refine lv_goto (tgt := 2) hx hb dX6_remember_23 (by decide) ?_
        cases hf
        have hf := ho_3.1 _ rfl
        exact ih_3 _ _ hf _ _ hP hD hS _ (lv_sub hl [1, 0] rfl)
  exact LP_3 _ _ _ hf _ _ hP hD hS _ (lv_sub hl [1, 0] rfl)
abbrev rm_X6_puts : Room := { frames := 0, cells := 0, slots := 0, locals := 0 }
set_option maxHeartbeats 4000000 in
set_option maxRecDepth 100000 in
theorem c_X6_puts (l : Launch) (D : va_G) (cI cC cT : ClassId) (h0 h1 h2 h3 h4 h5 h6 h7 h8 h9 h10 : Nat) (hlg : Int32) (tk : Int32) (fx : Int32) (xl : Int32) (xp : Int32) (rmn : Int32) (hdn : Int32) (few : Int32) (mst : Int32) (fal : Int32) (al : Nat → Int32) (sv : Nat → Int32) (hi : Nat → Int32) (sn : Nat → Int32) (ch : Nat → Int32) (my : Nat → Int32) (kp : Nat → Int32) (tx : Nat → Int32) (rd : Nat → Int32) (wy : Nat → Int32) (sz : Nat) (p0 : Int32) (p1 : Int32) (p2 : Int32) (p3 : Int32) (o_al : Nat → Int32) (hf : f_X6_puts al p0 p1 p2 p3 = some o_al) : Met l yX6_puts wsX6_puts rm_X6_puts (mP D (mTY cI cC cT) [.ref h0, .int p0, .int p1, .int p2, .int p3] (List.flatten [(W_M cI cC cT h0 h1 h2 h3 h4 h5 h6 h7 h8 h9 h10 hlg tk fx xl xp rmn hdn few mst fal al sv hi sn ch my kp tx rd wy)]) sz) (mQv D (mTY cI cC cT) (va_A (List.flatten [(W_M cI cC cT h0 h1 h2 h3 h4 h5 h6 h7 h8 h9 h10 hlg tk fx xl xp rmn hdn few mst fal al sv hi sn ch my kp tx rd wy)]) sz) (List.flatten [(W_M cI cC cT h0 h1 h2 h3 h4 h5 h6 h7 h8 h9 h10 hlg tk fx xl xp rmn hdn few mst fal o_al sv hi sn ch my kp tx rd wy)])) 0 0 (va_A (List.flatten [(W_M cI cC cT h0 h1 h2 h3 h4 h5 h6 h7 h8 h9 h10 hlg tk fx xl xp rmn hdn few mst fal al sv hi sn ch my kp tx rd wy)]) sz) := by
  refine mEnt (cc := cX6_puts) (maxL := 6) (ret := none) (own := RX6) (Qq := fun A => mQv D (mTY cI cC cT) A (List.flatten [(W_M cI cC cT h0 h1 h2 h3 h4 h5 h6 h7 h8 h9 h10 hlg tk fx xl xp rmn hdn few mst fal o_al sv hi sn ch my kp tx rd wy)])) (by decide) rfl rfl (Nat.le_of_ble_eq_true rfl) ?_
  intro p e s m below meth c A ls H locs hx hb hr hml hlocks hown hts hN hA hP hK hD hS hl
  have hin_X6 : ∀ w ∈ u_ws RX6 TX6 20, w ∈ wsX6_puts := by decide +kernel
  have fl_7 := hts (.fieldLink RX6 7 "SureMendingsModel" "all" "[I") (by decide +kernel)
  have hl : lv_has ls 6 [(0, .ref h0), (1, .int p0), (2, .int p1), (3, .int p2), (4, .int p3)] := hl
  unfold f_X6_puts at hf
  refine lv_iconst (v := 2) hx hb dX6_puts_0 (by decide) ?_
  refine lv_iconst (v := 4) hx hb dX6_puts_1 (by decide) ?_
  refine lv_aload_n hx hb dX6_puts_2 rfl (lv_at hl 0 rfl) ?_
  refine va_get (D := D) (ci := 6) (v := .ref h1) (C := RX6) (T := TX6) (N := 20) hx hb hts hin_X6 hown hK hP 0 rfl rfl 0 (by decide) fl_7 (fun _ h9 => h9) rfl dX6_puts_3 ?_
  refine lv_iconst (v := 0) hx hb dX6_puts_6 (by decide) ?_
  refine va_iald hx hb hK hP 1 0 rfl rfl (i := 0) (by unfold vp_in; decide) dX6_puts_7 ?_
  refine lv_tope (y := al 0) rfl ?_
  refine lv_imul hx hb dX6_puts_8 ?_
  refine lv_iadd hx hb dX6_puts_9 ?_
  refine lv_istore (lv' := [(5, .int (2 + (4 * (al 0)))), (0, .ref h0), (1, .int p0), (2, .int p1), (3, .int p2), (4, .int p3)]) hx hb dX6_puts_10 hl (by decide) rfl (fun ls hl => ?_)
  refine lv_aload_n hx hb dX6_puts_12 rfl (lv_at hl 1 rfl) ?_
  refine va_get (D := D) (ci := 6) (v := .ref h1) (C := RX6) (T := TX6) (N := 20) hx hb hts hin_X6 hown hK hP 0 rfl rfl 0 (by decide) fl_7 (fun _ h9 => h9) rfl dX6_puts_13 ?_
  refine lv_iload hx hb dX6_puts_16 (lv_at hl 0 rfl) ?_
  refine lv_iconst (v := 0) hx hb dX6_puts_18 (by decide) ?_
  refine lv_iadd hx hb dX6_puts_19 ?_
  refine lv_iload_n hx hb dX6_puts_20 rfl (lv_at hl 2 rfl) ?_
  obtain ⟨h_1, hf⟩ := grd hf
  refine va_iast hx hb hK hP hD hS 1 0 rfl rfl h_1 dX6_puts_21 (fun H locs hP hD hS => ?_)
  have hP : va_P D vwCl (List.flatten [(W_M cI cC cT h0 h1 h2 h3 h4 h5 h6 h7 h8 h9 h10 hlg tk fx xl xp rmn hdn few mst fal (upd al ((2 + (4 * (al 0))) + 0).toNatClampNeg p0) sv hi sn ch my kp tx rd wy)]) H := hP
  have hD : va_D A (List.flatten [(W_M cI cC cT h0 h1 h2 h3 h4 h5 h6 h7 h8 h9 h10 hlg tk fx xl xp rmn hdn few mst fal (upd al ((2 + (4 * (al 0))) + 0).toNatClampNeg p0) sv hi sn ch my kp tx rd wy)]) := hD
  refine lv_aload_n hx hb dX6_puts_22 rfl (lv_at hl 1 rfl) ?_
  refine va_get (D := D) (ci := 6) (v := .ref h1) (C := RX6) (T := TX6) (N := 20) hx hb hts hin_X6 hown hK hP 0 rfl rfl 0 (by decide) fl_7 (fun _ h9 => h9) rfl dX6_puts_23 ?_
  refine lv_iload hx hb dX6_puts_26 (lv_at hl 0 rfl) ?_
  refine lv_iconst (v := 1) hx hb dX6_puts_28 (by decide) ?_
  refine lv_iadd hx hb dX6_puts_29 ?_
  refine lv_iload_n hx hb dX6_puts_30 rfl (lv_at hl 3 rfl) ?_
  obtain ⟨h_2, hf⟩ := grd hf
  refine va_iast hx hb hK hP hD hS 1 0 rfl rfl h_2 dX6_puts_31 (fun H locs hP hD hS => ?_)
  have hP : va_P D vwCl (List.flatten [(W_M cI cC cT h0 h1 h2 h3 h4 h5 h6 h7 h8 h9 h10 hlg tk fx xl xp rmn hdn few mst fal (upd (upd al ((2 + (4 * (al 0))) + 0).toNatClampNeg p0) ((2 + (4 * (al 0))) + 1).toNatClampNeg p1) sv hi sn ch my kp tx rd wy)]) H := hP
  have hD : va_D A (List.flatten [(W_M cI cC cT h0 h1 h2 h3 h4 h5 h6 h7 h8 h9 h10 hlg tk fx xl xp rmn hdn few mst fal (upd (upd al ((2 + (4 * (al 0))) + 0).toNatClampNeg p0) ((2 + (4 * (al 0))) + 1).toNatClampNeg p1) sv hi sn ch my kp tx rd wy)]) := hD
  refine lv_aload_n hx hb dX6_puts_32 rfl (lv_at hl 1 rfl) ?_
  refine va_get (D := D) (ci := 6) (v := .ref h1) (C := RX6) (T := TX6) (N := 20) hx hb hts hin_X6 hown hK hP 0 rfl rfl 0 (by decide) fl_7 (fun _ h9 => h9) rfl dX6_puts_33 ?_
  refine lv_iload hx hb dX6_puts_36 (lv_at hl 0 rfl) ?_
  refine lv_iconst (v := 2) hx hb dX6_puts_38 (by decide) ?_
  refine lv_iadd hx hb dX6_puts_39 ?_
  refine lv_iload_n hx hb dX6_puts_40 rfl (lv_at hl 4 rfl) ?_
  obtain ⟨h_3, hf⟩ := grd hf
  refine va_iast hx hb hK hP hD hS 1 0 rfl rfl h_3 dX6_puts_41 (fun H locs hP hD hS => ?_)
  have hP : va_P D vwCl (List.flatten [(W_M cI cC cT h0 h1 h2 h3 h4 h5 h6 h7 h8 h9 h10 hlg tk fx xl xp rmn hdn few mst fal (upd (upd (upd al ((2 + (4 * (al 0))) + 0).toNatClampNeg p0) ((2 + (4 * (al 0))) + 1).toNatClampNeg p1) ((2 + (4 * (al 0))) + 2).toNatClampNeg p2) sv hi sn ch my kp tx rd wy)]) H := hP
  have hD : va_D A (List.flatten [(W_M cI cC cT h0 h1 h2 h3 h4 h5 h6 h7 h8 h9 h10 hlg tk fx xl xp rmn hdn few mst fal (upd (upd (upd al ((2 + (4 * (al 0))) + 0).toNatClampNeg p0) ((2 + (4 * (al 0))) + 1).toNatClampNeg p1) ((2 + (4 * (al 0))) + 2).toNatClampNeg p2) sv hi sn ch my kp tx rd wy)]) := hD
  refine lv_aload_n hx hb dX6_puts_42 rfl (lv_at hl 1 rfl) ?_
  refine va_get (D := D) (ci := 6) (v := .ref h1) (C := RX6) (T := TX6) (N := 20) hx hb hts hin_X6 hown hK hP 0 rfl rfl 0 (by decide) fl_7 (fun _ h9 => h9) rfl dX6_puts_43 ?_
  refine lv_iload hx hb dX6_puts_46 (lv_at hl 0 rfl) ?_
  refine lv_iconst (v := 3) hx hb dX6_puts_48 (by decide) ?_
  refine lv_iadd hx hb dX6_puts_49 ?_
  refine lv_iload hx hb dX6_puts_50 (lv_at hl 5 rfl) ?_
  obtain ⟨h_4, hf⟩ := grd hf
  refine va_iast hx hb hK hP hD hS 1 0 rfl rfl h_4 dX6_puts_52 (fun H locs hP hD hS => ?_)
  have hP : va_P D vwCl (List.flatten [(W_M cI cC cT h0 h1 h2 h3 h4 h5 h6 h7 h8 h9 h10 hlg tk fx xl xp rmn hdn few mst fal (upd (upd (upd (upd al ((2 + (4 * (al 0))) + 0).toNatClampNeg p0) ((2 + (4 * (al 0))) + 1).toNatClampNeg p1) ((2 + (4 * (al 0))) + 2).toNatClampNeg p2) ((2 + (4 * (al 0))) + 3).toNatClampNeg p3) sv hi sn ch my kp tx rd wy)]) H := hP
  have hD : va_D A (List.flatten [(W_M cI cC cT h0 h1 h2 h3 h4 h5 h6 h7 h8 h9 h10 hlg tk fx xl xp rmn hdn few mst fal (upd (upd (upd (upd al ((2 + (4 * (al 0))) + 0).toNatClampNeg p0) ((2 + (4 * (al 0))) + 1).toNatClampNeg p1) ((2 + (4 * (al 0))) + 2).toNatClampNeg p2) ((2 + (4 * (al 0))) + 3).toNatClampNeg p3) sv hi sn ch my kp tx rd wy)]) := hD
  refine lv_aload_n hx hb dX6_puts_53 rfl (lv_at hl 1 rfl) ?_
  refine va_get (D := D) (ci := 6) (v := .ref h1) (C := RX6) (T := TX6) (N := 20) hx hb hts hin_X6 hown hK hP 0 rfl rfl 0 (by decide) fl_7 (fun _ h9 => h9) rfl dX6_puts_54 ?_
  refine lv_iconst (v := 0) hx hb dX6_puts_57 (by decide) ?_
  refine lv_dup2_11 hx hb dX6_puts_58 rfl rfl ?_
  refine va_iald hx hb hK hP 1 0 rfl rfl (i := 0) (by unfold vp_in; decide) dX6_puts_59 ?_
  refine lv_tope (y := (upd (upd (upd (upd al ((2 + (4 * (al 0))) + 0).toNatClampNeg p0) ((2 + (4 * (al 0))) + 1).toNatClampNeg p1) ((2 + (4 * (al 0))) + 2).toNatClampNeg p2) ((2 + (4 * (al 0))) + 3).toNatClampNeg p3) 0) rfl ?_
  refine lv_iconst (v := 1) hx hb dX6_puts_60 (by decide) ?_
  refine lv_iadd hx hb dX6_puts_61 ?_
  refine va_iast hx hb hK hP hD hS 1 0 rfl rfl (i := 0) (by unfold vp_in; decide) dX6_puts_62 (fun H locs hP hD hS => ?_)
  have hP : va_P D vwCl (List.flatten [(W_M cI cC cT h0 h1 h2 h3 h4 h5 h6 h7 h8 h9 h10 hlg tk fx xl xp rmn hdn few mst fal (upd (upd (upd (upd (upd al ((2 + (4 * (al 0))) + 0).toNatClampNeg p0) ((2 + (4 * (al 0))) + 1).toNatClampNeg p1) ((2 + (4 * (al 0))) + 2).toNatClampNeg p2) ((2 + (4 * (al 0))) + 3).toNatClampNeg p3) 0 (((upd (upd (upd (upd al ((2 + (4 * (al 0))) + 0).toNatClampNeg p0) ((2 + (4 * (al 0))) + 1).toNatClampNeg p1) ((2 + (4 * (al 0))) + 2).toNatClampNeg p2) ((2 + (4 * (al 0))) + 3).toNatClampNeg p3) 0) + 1)) sv hi sn ch my kp tx rd wy)]) H := hP
  have hD : va_D A (List.flatten [(W_M cI cC cT h0 h1 h2 h3 h4 h5 h6 h7 h8 h9 h10 hlg tk fx xl xp rmn hdn few mst fal (upd (upd (upd (upd (upd al ((2 + (4 * (al 0))) + 0).toNatClampNeg p0) ((2 + (4 * (al 0))) + 1).toNatClampNeg p1) ((2 + (4 * (al 0))) + 2).toNatClampNeg p2) ((2 + (4 * (al 0))) + 3).toNatClampNeg p3) 0 (((upd (upd (upd (upd al ((2 + (4 * (al 0))) + 0).toNatClampNeg p0) ((2 + (4 * (al 0))) + 1).toNatClampNeg p1) ((2 + (4 * (al 0))) + 2).toNatClampNeg p2) ((2 + (4 * (al 0))) + 3).toNatClampNeg p3) 0) + 1)) sv hi sn ch my kp tx rd wy)]) := hD
  cases hf
  exact mVret hx hb hr hlocks hP hD hK hS dX6_puts_63
abbrev rm_X6_add : Room := { frames := 2, cells := 0, slots := 0, locals := 45 }
set_option maxHeartbeats 4000000 in
set_option maxRecDepth 100000 in
theorem c_X6_add (l : Launch) (D : va_G) (cI cC cT : ClassId) (h0 h1 h2 h3 h4 h5 h6 h7 h8 h9 h10 : Nat) (hlg : Int32) (tk : Int32) (fx : Int32) (xl : Int32) (xp : Int32) (rmn : Int32) (hdn : Int32) (few : Int32) (mst : Int32) (fal : Int32) (al : Nat → Int32) (sv : Nat → Int32) (hi : Nat → Int32) (sn : Nat → Int32) (ch : Nat → Int32) (my : Nat → Int32) (kp : Nat → Int32) (tx : Nat → Int32) (rd : Nat → Int32) (wy : Nat → Int32) (sz : Nat) (p0 : Int32) (p1 : Int32) (p2 : Int32) (p3 : Int32) (out : Int32) (o_hlg : Int32) (o_al : Nat → Int32) (o_sv : Nat → Int32) (o_hi : Nat → Int32) (hf : f_X6_add hlg al sv hi p0 p1 p2 p3 = some ((out, o_hlg, o_al, o_sv, o_hi))) : Met l yX6_add wsX6_add rm_X6_add (mP D (mTY cI cC cT) [.ref h0, .int p0, .int p1, .int p2, .int p3] (List.flatten [(W_M cI cC cT h0 h1 h2 h3 h4 h5 h6 h7 h8 h9 h10 hlg tk fx xl xp rmn hdn few mst fal al sv hi sn ch my kp tx rd wy)]) sz) (mQi D (mTY cI cC cT) out (va_A (List.flatten [(W_M cI cC cT h0 h1 h2 h3 h4 h5 h6 h7 h8 h9 h10 hlg tk fx xl xp rmn hdn few mst fal al sv hi sn ch my kp tx rd wy)]) sz) (List.flatten [(W_M cI cC cT h0 h1 h2 h3 h4 h5 h6 h7 h8 h9 h10 o_hlg tk fx xl xp rmn hdn few mst fal o_al o_sv o_hi sn ch my kp tx rd wy)])) 0 0 (va_A (List.flatten [(W_M cI cC cT h0 h1 h2 h3 h4 h5 h6 h7 h8 h9 h10 hlg tk fx xl xp rmn hdn few mst fal al sv hi sn ch my kp tx rd wy)]) sz) := by
  refine mEnt (cc := cX6_add) (maxL := 5) (ret := (some .int)) (own := RX6) (Qq := fun A => mQi D (mTY cI cC cT) out A (List.flatten [(W_M cI cC cT h0 h1 h2 h3 h4 h5 h6 h7 h8 h9 h10 o_hlg tk fx xl xp rmn hdn few mst fal o_al o_sv o_hi sn ch my kp tx rd wy)])) (by decide) rfl rfl (Nat.le_of_ble_eq_true rfl) ?_
  intro p e s m below meth c A ls H locs hx hb hr hml hlocks hown hts hN hA hP hK hD hS hl
  have hin_X6 : ∀ w ∈ u_ws RX6 TX6 20, w ∈ wsX6_add := by decide +kernel
  have fl_7 := hts (.fieldLink RX6 7 "SureMendingsModel" "all" "[I") (by decide +kernel)
  have hl : lv_has ls 5 [(0, .ref h0), (1, .int p0), (2, .int p1), (3, .int p2), (4, .int p3)] := hl
  unfold f_X6_add at hf
  refine lv_iload_n hx hb dX6_add_0 rfl (lv_at hl 1 rfl) ?_
  obtain ⟨r_1, q_2, hf⟩ := bnd hf
  refine mGoiS (segs := [(W_M cI cC cT h0 h1 h2 h3 h4 h5 h6 h7 h8 h9 h10 hlg tk fx xl xp rmn hdn few mst fal al sv hi sn ch my kp tx rd wy)]) (wcs := []) (w1s := []) (w2s := [(W_M cI cC cT h0 h1 h2 h3 h4 h5 h6 h7 h8 h9 h10 hlg tk fx xl xp rmn hdn few mst fal al sv hi sn ch my kp tx rd wy)]) rfl rfl (va_runS (As := [.int p0]) (rest := []) ⟨hx, hb, hml, hown, hts⟩ (c_X6_isKey l D cI cC cT H.size p0 r_1 q_2) (va_cwS 1 hts gX6_add_X6_isKey rfl rfl rfl (by decide +kernel) ⟨Nat.le_of_ble_eq_true rfl, Nat.le_of_ble_eq_true rfl⟩) (mPreSS [] rfl hP hD hK hN [] rfl (by decide)) rfl rfl hl.1 rfl (lv_room (Nat.le_of_ble_eq_true rfl)) dX6_add_1 ⟨Nat.zero_le _, Nat.zero_le _⟩) hP hD hS hA [] rfl rfl rfl rfl (fun H locs hP hD hS => ?_)
  refine lv_if_eq (tgt := 22) hx hb dX6_add_4 (by decide) (fun c_3 => ?_) (fun c_3 => ?_)
  · have hf := ite_t hf c_3
    refine lv_iconst (v := -1) hx hb dX6_add_22 (by decide) ?_
    cases hf
    exact mIret hx hb hr hlocks hP hD hK hS dX6_add_23
  · have hf := ite_f hf c_3
    refine lv_iload hx hb dX6_add_7 (lv_at hl 4 rfl) ?_
    obtain ⟨r_4, q_5, hf⟩ := bnd hf
    refine mGoiS (segs := [(W_M cI cC cT h0 h1 h2 h3 h4 h5 h6 h7 h8 h9 h10 hlg tk fx xl xp rmn hdn few mst fal al sv hi sn ch my kp tx rd wy)]) (wcs := []) (w1s := []) (w2s := [(W_M cI cC cT h0 h1 h2 h3 h4 h5 h6 h7 h8 h9 h10 hlg tk fx xl xp rmn hdn few mst fal al sv hi sn ch my kp tx rd wy)]) rfl rfl (va_runS (As := [.int p3]) (rest := []) ⟨hx, hb, hml, hown, hts⟩ (c_X6_isKey l D cI cC cT H.size p3 r_4 q_5) (va_cwS 1 hts gX6_add_X6_isKey rfl rfl rfl (by decide +kernel) ⟨Nat.le_of_ble_eq_true rfl, Nat.le_of_ble_eq_true rfl⟩) (mPreSS [] rfl hP hD hK hN [] rfl (by decide)) rfl rfl hl.1 rfl (lv_room (Nat.le_of_ble_eq_true rfl)) dX6_add_9 ⟨Nat.zero_le _, Nat.zero_le _⟩) hP hD hS hA [] rfl rfl rfl rfl (fun H locs hP hD hS => ?_)
    refine lv_if_ne (tgt := 24) hx hb dX6_add_12 (by decide) (fun c_6 => ?_) (fun c_6 => ?_)
    · have hf := ite_f hf c_6
      refine lv_iload_n hx hb dX6_add_24 rfl (lv_at hl 2 rfl) ?_
      obtain ⟨r_7, q_8, hf⟩ := bnd hf
      refine mGoiS (segs := [(W_M cI cC cT h0 h1 h2 h3 h4 h5 h6 h7 h8 h9 h10 hlg tk fx xl xp rmn hdn few mst fal al sv hi sn ch my kp tx rd wy)]) (wcs := []) (w1s := []) (w2s := [(W_M cI cC cT h0 h1 h2 h3 h4 h5 h6 h7 h8 h9 h10 hlg tk fx xl xp rmn hdn few mst fal al sv hi sn ch my kp tx rd wy)]) rfl rfl (va_runS (As := [.int p1]) (rest := []) ⟨hx, hb, hml, hown, hts⟩ (c_X6_isValue l D cI cC cT H.size p1 r_7 q_8) (va_cwS 1 hts gX6_add_X6_isValue rfl rfl rfl (by decide +kernel) ⟨Nat.le_of_ble_eq_true rfl, Nat.le_of_ble_eq_true rfl⟩) (mPreSS [] rfl hP hD hK hN [] rfl (by decide)) rfl rfl hl.1 rfl (lv_room (Nat.le_of_ble_eq_true rfl)) dX6_add_25 ⟨Nat.zero_le _, Nat.zero_le _⟩) hP hD hS hA [] rfl rfl rfl rfl (fun H locs hP hD hS => ?_)
      refine lv_if_eq (tgt := 43) hx hb dX6_add_28 (by decide) (fun c_9 => ?_) (fun c_9 => ?_)
      · have hf := ite_t hf c_9
        refine lv_bipush (v := -2) hx hb dX6_add_43 (by decide) ?_
        cases hf
        exact mIret hx hb hr hlocks hP hD hK hS dX6_add_45
      · have hf := ite_f hf c_9
        refine lv_iload_n hx hb dX6_add_31 rfl (lv_at hl 3 rfl) ?_
        refine lv_i2l hx hb dX6_add_32 rfl ?_
        refine lv_lconst (v := 0) hx hb dX6_add_33 rfl ?_
        refine lv_ldc2 (v := 99) hx hb hown (hts (.constantLong RX6 79 (99)) (by decide +kernel)) dX6_add_34 ?_
        obtain ⟨r_10, q_11, hf⟩ := bnd hf
        refine mGoiS (segs := [(W_M cI cC cT h0 h1 h2 h3 h4 h5 h6 h7 h8 h9 h10 hlg tk fx xl xp rmn hdn few mst fal al sv hi sn ch my kp tx rd wy)]) (wcs := []) (w1s := []) (w2s := [(W_M cI cC cT h0 h1 h2 h3 h4 h5 h6 h7 h8 h9 h10 hlg tk fx xl xp rmn hdn few mst fal al sv hi sn ch my kp tx rd wy)]) rfl rfl (va_runS (As := [.long (Int32.toInt64 p2), .long 0, .long 99]) (rest := []) ⟨hx, hb, hml, hown, hts⟩ (c_X6_in l D cI cC cT H.size (Int32.toInt64 p2) 0 99 r_10 q_11) (va_cwS 3 hts gX6_add_X6_in rfl rfl rfl (by decide +kernel) ⟨Nat.le_of_ble_eq_true rfl, Nat.le_of_ble_eq_true rfl⟩) (mPreSS [] rfl hP hD hK hN [] rfl (by decide)) rfl rfl hl.1 rfl (lv_room (Nat.le_of_ble_eq_true rfl)) dX6_add_37 ⟨Nat.zero_le _, Nat.zero_le _⟩) hP hD hS hA [] rfl rfl rfl rfl (fun H locs hP hD hS => ?_)
        refine lv_if_ne (tgt := 46) hx hb dX6_add_40 (by decide) (fun c_12 => ?_) (fun c_12 => ?_)
        · have hf := ite_f hf c_12
          refine lv_aload_n hx hb dX6_add_46 rfl (lv_at hl 0 rfl) ?_
          refine va_get (D := D) (ci := 6) (v := .ref h1) (C := RX6) (T := TX6) (N := 20) hx hb hts hin_X6 hown hK hP 0 rfl rfl 0 (by decide) fl_7 (fun _ h9 => h9) rfl dX6_add_47 ?_
          refine lv_iconst (v := 0) hx hb dX6_add_50 (by decide) ?_
          refine va_iald hx hb hK hP 1 0 rfl rfl (i := 0) (by unfold vp_in; decide) dX6_add_51 ?_
          refine lv_tope (y := al 0) rfl ?_
          refine lv_bipush (v := 20) hx hb dX6_add_52 (by decide) ?_
          refine lv_icmp_ne (tgt := 60) hx hb dX6_add_54 (by decide) (fun c_13 => ?_) (fun c_13 => ?_)
          · have hf := ite_f hf c_13
            refine lv_aload_n hx hb dX6_add_60 rfl (lv_at hl 0 rfl) ?_
            obtain ⟨sv_14, q_15, hf⟩ := bnd hf
            refine mGovS (segs := [(W_M cI cC cT h0 h1 h2 h3 h4 h5 h6 h7 h8 h9 h10 hlg tk fx xl xp rmn hdn few mst fal al sv hi sn ch my kp tx rd wy)]) (wcs := [(W_M cI cC cT h0 h1 h2 h3 h4 h5 h6 h7 h8 h9 h10 hlg tk fx xl xp rmn hdn few mst fal al sv hi sn ch my kp tx rd wy)]) (w1s := [(W_M cI cC cT h0 h1 h2 h3 h4 h5 h6 h7 h8 h9 h10 hlg tk fx xl xp rmn hdn few mst fal al sv_14 hi sn ch my kp tx rd wy)]) (w2s := [(W_M cI cC cT h0 h1 h2 h3 h4 h5 h6 h7 h8 h9 h10 hlg tk fx xl xp rmn hdn few mst fal al sv_14 hi sn ch my kp tx rd wy)]) rfl rfl (va_runV (As := []) (rest := []) ⟨hx, hb, hml, hown, hts⟩ (c_X6_remember l D cI cC cT h0 h1 h2 h3 h4 h5 h6 h7 h8 h9 h10 hlg tk fx xl xp rmn hdn few mst fal al sv hi sn ch my kp tx rd wy H.size sv_14 q_15) (cwV 0 hts gX6_add_X6_remember rfl rfl rfl (by decide +kernel) ⟨Nat.le_of_ble_eq_true rfl, Nat.le_of_ble_eq_true rfl⟩) (mPreVS [(W_M cI cC cT h0 h1 h2 h3 h4 h5 h6 h7 h8 h9 h10 hlg tk fx xl xp rmn hdn few mst fal al sv hi sn ch my kp tx rd wy)] rfl hP hD hK hN [0] rfl (by decide) (va_recv hK (sP hP 0 rfl) (ci := 6) (q0 := 0) rfl rfl)) rfl rfl hl.1 rfl (lv_room (Nat.le_of_ble_eq_true rfl)) dX6_add_61 ⟨Nat.zero_le _, Nat.zero_le _⟩) hP hD hS hA [0] rfl rfl rfl rfl (fun H locs hP hD hS => ?_)
            refine lv_aload_n hx hb dX6_add_64 rfl (lv_at hl 0 rfl) ?_
            refine lv_iload_n hx hb dX6_add_65 rfl (lv_at hl 1 rfl) ?_
            refine lv_iload_n hx hb dX6_add_66 rfl (lv_at hl 2 rfl) ?_
            refine lv_bipush (v := 97) hx hb dX6_add_67 (by decide) ?_
            refine lv_isub hx hb dX6_add_69 ?_
            refine lv_iload_n hx hb dX6_add_70 rfl (lv_at hl 3 rfl) ?_
            refine lv_iload hx hb dX6_add_71 (lv_at hl 4 rfl) ?_
            obtain ⟨al_16, q_17, hf⟩ := bnd hf
            refine mGovS (segs := [(W_M cI cC cT h0 h1 h2 h3 h4 h5 h6 h7 h8 h9 h10 hlg tk fx xl xp rmn hdn few mst fal al sv_14 hi sn ch my kp tx rd wy)]) (wcs := [(W_M cI cC cT h0 h1 h2 h3 h4 h5 h6 h7 h8 h9 h10 hlg tk fx xl xp rmn hdn few mst fal al sv_14 hi sn ch my kp tx rd wy)]) (w1s := [(W_M cI cC cT h0 h1 h2 h3 h4 h5 h6 h7 h8 h9 h10 hlg tk fx xl xp rmn hdn few mst fal al_16 sv_14 hi sn ch my kp tx rd wy)]) (w2s := [(W_M cI cC cT h0 h1 h2 h3 h4 h5 h6 h7 h8 h9 h10 hlg tk fx xl xp rmn hdn few mst fal al_16 sv_14 hi sn ch my kp tx rd wy)]) rfl rfl (va_runV (As := [.int p0, .int (p1 - 97), .int p2, .int p3]) (rest := []) ⟨hx, hb, hml, hown, hts⟩ (c_X6_puts l D cI cC cT h0 h1 h2 h3 h4 h5 h6 h7 h8 h9 h10 hlg tk fx xl xp rmn hdn few mst fal al sv_14 hi sn ch my kp tx rd wy H.size p0 (p1 - 97) p2 p3 al_16 q_17) (cwV 4 hts gX6_add_X6_puts rfl rfl rfl (by decide +kernel) ⟨Nat.le_of_ble_eq_true rfl, Nat.le_of_ble_eq_true rfl⟩) (mPreVS [(W_M cI cC cT h0 h1 h2 h3 h4 h5 h6 h7 h8 h9 h10 hlg tk fx xl xp rmn hdn few mst fal al sv_14 hi sn ch my kp tx rd wy)] rfl hP hD hK hN [0] rfl (by decide) (va_recv hK (sP hP 0 rfl) (ci := 6) (q0 := 0) rfl rfl)) rfl rfl hl.1 rfl (lv_room (Nat.le_of_ble_eq_true rfl)) dX6_add_73 ⟨Nat.zero_le _, Nat.zero_le _⟩) hP hD hS hA [0] rfl rfl rfl rfl (fun H locs hP hD hS => ?_)
            refine lv_aload_n hx hb dX6_add_76 rfl (lv_at hl 0 rfl) ?_
            refine lv_aload_n hx hb dX6_add_77 rfl (lv_at hl 0 rfl) ?_
            refine va_get (D := D) (ci := 6) (v := .ref h1) (C := RX6) (T := TX6) (N := 20) hx hb hts hin_X6 hown hK hP 0 rfl rfl 0 (by decide) fl_7 (fun _ h9 => h9) rfl dX6_add_78 ?_
            refine lv_iconst (v := 0) hx hb dX6_add_81 (by decide) ?_
            refine va_iald hx hb hK hP 1 0 rfl rfl (i := 0) (by unfold vp_in; decide) dX6_add_82 ?_
            refine lv_tope (y := al_16 0) rfl ?_
            refine lv_iconst (v := 1) hx hb dX6_add_83 (by decide) ?_
            refine lv_isub hx hb dX6_add_84 ?_
            obtain ⟨⟨r_18, hlg_19, hi_20⟩, q_21, hf⟩ := bnd hf
            refine mGoiS (segs := [(W_M cI cC cT h0 h1 h2 h3 h4 h5 h6 h7 h8 h9 h10 hlg tk fx xl xp rmn hdn few mst fal al_16 sv_14 hi sn ch my kp tx rd wy)]) (wcs := [(W_M cI cC cT h0 h1 h2 h3 h4 h5 h6 h7 h8 h9 h10 hlg tk fx xl xp rmn hdn few mst fal al_16 sv_14 hi sn ch my kp tx rd wy)]) (w1s := [(W_M cI cC cT h0 h1 h2 h3 h4 h5 h6 h7 h8 h9 h10 hlg_19 tk fx xl xp rmn hdn few mst fal al_16 sv_14 hi_20 sn ch my kp tx rd wy)]) (w2s := [(W_M cI cC cT h0 h1 h2 h3 h4 h5 h6 h7 h8 h9 h10 hlg_19 tk fx xl xp rmn hdn few mst fal al_16 sv_14 hi_20 sn ch my kp tx rd wy)]) rfl rfl (va_runV (As := [.int ((al_16 0) - 1)]) (rest := []) ⟨hx, hb, hml, hown, hts⟩ (c_X6_acted l D cI cC cT h0 h1 h2 h3 h4 h5 h6 h7 h8 h9 h10 hlg tk fx xl xp rmn hdn few mst fal al_16 sv_14 hi sn ch my kp tx rd wy H.size ((al_16 0) - 1) r_18 hlg_19 hi_20 q_21) (cwV 1 hts gX6_add_X6_acted rfl rfl rfl (by decide +kernel) ⟨Nat.le_of_ble_eq_true rfl, Nat.le_of_ble_eq_true rfl⟩) (mPreVS [(W_M cI cC cT h0 h1 h2 h3 h4 h5 h6 h7 h8 h9 h10 hlg tk fx xl xp rmn hdn few mst fal al_16 sv_14 hi sn ch my kp tx rd wy)] rfl hP hD hK hN [0] rfl (by decide) (va_recv hK (sP hP 0 rfl) (ci := 6) (q0 := 0) rfl rfl)) rfl rfl hl.1 rfl (lv_room (Nat.le_of_ble_eq_true rfl)) dX6_add_85 ⟨Nat.zero_le _, Nat.zero_le _⟩) hP hD hS hA [0] rfl rfl rfl rfl (fun H locs hP hD hS => ?_)
            cases hf
            exact mIret hx hb hr hlocks hP hD hK hS dX6_add_88
          · have hf := ite_t hf c_13
            refine lv_bipush (v := -3) hx hb dX6_add_57 (by decide) ?_
            cases hf
            exact mIret hx hb hr hlocks hP hD hK hS dX6_add_59
        · have hf := ite_t hf c_12
          refine lv_bipush (v := -2) hx hb dX6_add_43 (by decide) ?_
          cases hf
          exact mIret hx hb hr hlocks hP hD hK hS dX6_add_45
    · have hf := ite_t hf c_6
      refine lv_iload hx hb dX6_add_15 (lv_at hl 4 rfl) ?_
      refine lv_bipush (v := -5) hx hb dX6_add_17 (by decide) ?_
      refine lv_icmp_eq (tgt := 24) hx hb dX6_add_19 (by decide) (fun c_22 => ?_) (fun c_22 => ?_)
      · have hf := ite_t hf c_22
        refine lv_iload_n hx hb dX6_add_24 rfl (lv_at hl 2 rfl) ?_
        obtain ⟨r_23, q_24, hf⟩ := bnd hf
        refine mGoiS (segs := [(W_M cI cC cT h0 h1 h2 h3 h4 h5 h6 h7 h8 h9 h10 hlg tk fx xl xp rmn hdn few mst fal al sv hi sn ch my kp tx rd wy)]) (wcs := []) (w1s := []) (w2s := [(W_M cI cC cT h0 h1 h2 h3 h4 h5 h6 h7 h8 h9 h10 hlg tk fx xl xp rmn hdn few mst fal al sv hi sn ch my kp tx rd wy)]) rfl rfl (va_runS (As := [.int p1]) (rest := []) ⟨hx, hb, hml, hown, hts⟩ (c_X6_isValue l D cI cC cT H.size p1 r_23 q_24) (va_cwS 1 hts gX6_add_X6_isValue rfl rfl rfl (by decide +kernel) ⟨Nat.le_of_ble_eq_true rfl, Nat.le_of_ble_eq_true rfl⟩) (mPreSS [] rfl hP hD hK hN [] rfl (by decide)) rfl rfl hl.1 rfl (lv_room (Nat.le_of_ble_eq_true rfl)) dX6_add_25 ⟨Nat.zero_le _, Nat.zero_le _⟩) hP hD hS hA [] rfl rfl rfl rfl (fun H locs hP hD hS => ?_)
        refine lv_if_eq (tgt := 43) hx hb dX6_add_28 (by decide) (fun c_25 => ?_) (fun c_25 => ?_)
        · have hf := ite_t hf c_25
          refine lv_bipush (v := -2) hx hb dX6_add_43 (by decide) ?_
          cases hf
          exact mIret hx hb hr hlocks hP hD hK hS dX6_add_45
        · have hf := ite_f hf c_25
          refine lv_iload_n hx hb dX6_add_31 rfl (lv_at hl 3 rfl) ?_
          refine lv_i2l hx hb dX6_add_32 rfl ?_
          refine lv_lconst (v := 0) hx hb dX6_add_33 rfl ?_
          refine lv_ldc2 (v := 99) hx hb hown (hts (.constantLong RX6 79 (99)) (by decide +kernel)) dX6_add_34 ?_
          obtain ⟨r_26, q_27, hf⟩ := bnd hf
          refine mGoiS (segs := [(W_M cI cC cT h0 h1 h2 h3 h4 h5 h6 h7 h8 h9 h10 hlg tk fx xl xp rmn hdn few mst fal al sv hi sn ch my kp tx rd wy)]) (wcs := []) (w1s := []) (w2s := [(W_M cI cC cT h0 h1 h2 h3 h4 h5 h6 h7 h8 h9 h10 hlg tk fx xl xp rmn hdn few mst fal al sv hi sn ch my kp tx rd wy)]) rfl rfl (va_runS (As := [.long (Int32.toInt64 p2), .long 0, .long 99]) (rest := []) ⟨hx, hb, hml, hown, hts⟩ (c_X6_in l D cI cC cT H.size (Int32.toInt64 p2) 0 99 r_26 q_27) (va_cwS 3 hts gX6_add_X6_in rfl rfl rfl (by decide +kernel) ⟨Nat.le_of_ble_eq_true rfl, Nat.le_of_ble_eq_true rfl⟩) (mPreSS [] rfl hP hD hK hN [] rfl (by decide)) rfl rfl hl.1 rfl (lv_room (Nat.le_of_ble_eq_true rfl)) dX6_add_37 ⟨Nat.zero_le _, Nat.zero_le _⟩) hP hD hS hA [] rfl rfl rfl rfl (fun H locs hP hD hS => ?_)
          refine lv_if_ne (tgt := 46) hx hb dX6_add_40 (by decide) (fun c_28 => ?_) (fun c_28 => ?_)
          · have hf := ite_f hf c_28
            refine lv_aload_n hx hb dX6_add_46 rfl (lv_at hl 0 rfl) ?_
            refine va_get (D := D) (ci := 6) (v := .ref h1) (C := RX6) (T := TX6) (N := 20) hx hb hts hin_X6 hown hK hP 0 rfl rfl 0 (by decide) fl_7 (fun _ h9 => h9) rfl dX6_add_47 ?_
            refine lv_iconst (v := 0) hx hb dX6_add_50 (by decide) ?_
            refine va_iald hx hb hK hP 1 0 rfl rfl (i := 0) (by unfold vp_in; decide) dX6_add_51 ?_
            refine lv_tope (y := al 0) rfl ?_
            refine lv_bipush (v := 20) hx hb dX6_add_52 (by decide) ?_
            refine lv_icmp_ne (tgt := 60) hx hb dX6_add_54 (by decide) (fun c_29 => ?_) (fun c_29 => ?_)
            · have hf := ite_f hf c_29
              refine lv_aload_n hx hb dX6_add_60 rfl (lv_at hl 0 rfl) ?_
              obtain ⟨sv_30, q_31, hf⟩ := bnd hf
              refine mGovS (segs := [(W_M cI cC cT h0 h1 h2 h3 h4 h5 h6 h7 h8 h9 h10 hlg tk fx xl xp rmn hdn few mst fal al sv hi sn ch my kp tx rd wy)]) (wcs := [(W_M cI cC cT h0 h1 h2 h3 h4 h5 h6 h7 h8 h9 h10 hlg tk fx xl xp rmn hdn few mst fal al sv hi sn ch my kp tx rd wy)]) (w1s := [(W_M cI cC cT h0 h1 h2 h3 h4 h5 h6 h7 h8 h9 h10 hlg tk fx xl xp rmn hdn few mst fal al sv_30 hi sn ch my kp tx rd wy)]) (w2s := [(W_M cI cC cT h0 h1 h2 h3 h4 h5 h6 h7 h8 h9 h10 hlg tk fx xl xp rmn hdn few mst fal al sv_30 hi sn ch my kp tx rd wy)]) rfl rfl (va_runV (As := []) (rest := []) ⟨hx, hb, hml, hown, hts⟩ (c_X6_remember l D cI cC cT h0 h1 h2 h3 h4 h5 h6 h7 h8 h9 h10 hlg tk fx xl xp rmn hdn few mst fal al sv hi sn ch my kp tx rd wy H.size sv_30 q_31) (cwV 0 hts gX6_add_X6_remember rfl rfl rfl (by decide +kernel) ⟨Nat.le_of_ble_eq_true rfl, Nat.le_of_ble_eq_true rfl⟩) (mPreVS [(W_M cI cC cT h0 h1 h2 h3 h4 h5 h6 h7 h8 h9 h10 hlg tk fx xl xp rmn hdn few mst fal al sv hi sn ch my kp tx rd wy)] rfl hP hD hK hN [0] rfl (by decide) (va_recv hK (sP hP 0 rfl) (ci := 6) (q0 := 0) rfl rfl)) rfl rfl hl.1 rfl (lv_room (Nat.le_of_ble_eq_true rfl)) dX6_add_61 ⟨Nat.zero_le _, Nat.zero_le _⟩) hP hD hS hA [0] rfl rfl rfl rfl (fun H locs hP hD hS => ?_)
              refine lv_aload_n hx hb dX6_add_64 rfl (lv_at hl 0 rfl) ?_
              refine lv_iload_n hx hb dX6_add_65 rfl (lv_at hl 1 rfl) ?_
              refine lv_iload_n hx hb dX6_add_66 rfl (lv_at hl 2 rfl) ?_
              refine lv_bipush (v := 97) hx hb dX6_add_67 (by decide) ?_
              refine lv_isub hx hb dX6_add_69 ?_
              refine lv_iload_n hx hb dX6_add_70 rfl (lv_at hl 3 rfl) ?_
              refine lv_iload hx hb dX6_add_71 (lv_at hl 4 rfl) ?_
              obtain ⟨al_32, q_33, hf⟩ := bnd hf
              refine mGovS (segs := [(W_M cI cC cT h0 h1 h2 h3 h4 h5 h6 h7 h8 h9 h10 hlg tk fx xl xp rmn hdn few mst fal al sv_30 hi sn ch my kp tx rd wy)]) (wcs := [(W_M cI cC cT h0 h1 h2 h3 h4 h5 h6 h7 h8 h9 h10 hlg tk fx xl xp rmn hdn few mst fal al sv_30 hi sn ch my kp tx rd wy)]) (w1s := [(W_M cI cC cT h0 h1 h2 h3 h4 h5 h6 h7 h8 h9 h10 hlg tk fx xl xp rmn hdn few mst fal al_32 sv_30 hi sn ch my kp tx rd wy)]) (w2s := [(W_M cI cC cT h0 h1 h2 h3 h4 h5 h6 h7 h8 h9 h10 hlg tk fx xl xp rmn hdn few mst fal al_32 sv_30 hi sn ch my kp tx rd wy)]) rfl rfl (va_runV (As := [.int p0, .int (p1 - 97), .int p2, .int p3]) (rest := []) ⟨hx, hb, hml, hown, hts⟩ (c_X6_puts l D cI cC cT h0 h1 h2 h3 h4 h5 h6 h7 h8 h9 h10 hlg tk fx xl xp rmn hdn few mst fal al sv_30 hi sn ch my kp tx rd wy H.size p0 (p1 - 97) p2 p3 al_32 q_33) (cwV 4 hts gX6_add_X6_puts rfl rfl rfl (by decide +kernel) ⟨Nat.le_of_ble_eq_true rfl, Nat.le_of_ble_eq_true rfl⟩) (mPreVS [(W_M cI cC cT h0 h1 h2 h3 h4 h5 h6 h7 h8 h9 h10 hlg tk fx xl xp rmn hdn few mst fal al sv_30 hi sn ch my kp tx rd wy)] rfl hP hD hK hN [0] rfl (by decide) (va_recv hK (sP hP 0 rfl) (ci := 6) (q0 := 0) rfl rfl)) rfl rfl hl.1 rfl (lv_room (Nat.le_of_ble_eq_true rfl)) dX6_add_73 ⟨Nat.zero_le _, Nat.zero_le _⟩) hP hD hS hA [0] rfl rfl rfl rfl (fun H locs hP hD hS => ?_)
              refine lv_aload_n hx hb dX6_add_76 rfl (lv_at hl 0 rfl) ?_
              refine lv_aload_n hx hb dX6_add_77 rfl (lv_at hl 0 rfl) ?_
              refine va_get (D := D) (ci := 6) (v := .ref h1) (C := RX6) (T := TX6) (N := 20) hx hb hts hin_X6 hown hK hP 0 rfl rfl 0 (by decide) fl_7 (fun _ h9 => h9) rfl dX6_add_78 ?_
              refine lv_iconst (v := 0) hx hb dX6_add_81 (by decide) ?_
              refine va_iald hx hb hK hP 1 0 rfl rfl (i := 0) (by unfold vp_in; decide) dX6_add_82 ?_
              refine lv_tope (y := al_32 0) rfl ?_
              refine lv_iconst (v := 1) hx hb dX6_add_83 (by decide) ?_
              refine lv_isub hx hb dX6_add_84 ?_
              obtain ⟨⟨r_34, hlg_35, hi_36⟩, q_37, hf⟩ := bnd hf
              refine mGoiS (segs := [(W_M cI cC cT h0 h1 h2 h3 h4 h5 h6 h7 h8 h9 h10 hlg tk fx xl xp rmn hdn few mst fal al_32 sv_30 hi sn ch my kp tx rd wy)]) (wcs := [(W_M cI cC cT h0 h1 h2 h3 h4 h5 h6 h7 h8 h9 h10 hlg tk fx xl xp rmn hdn few mst fal al_32 sv_30 hi sn ch my kp tx rd wy)]) (w1s := [(W_M cI cC cT h0 h1 h2 h3 h4 h5 h6 h7 h8 h9 h10 hlg_35 tk fx xl xp rmn hdn few mst fal al_32 sv_30 hi_36 sn ch my kp tx rd wy)]) (w2s := [(W_M cI cC cT h0 h1 h2 h3 h4 h5 h6 h7 h8 h9 h10 hlg_35 tk fx xl xp rmn hdn few mst fal al_32 sv_30 hi_36 sn ch my kp tx rd wy)]) rfl rfl (va_runV (As := [.int ((al_32 0) - 1)]) (rest := []) ⟨hx, hb, hml, hown, hts⟩ (c_X6_acted l D cI cC cT h0 h1 h2 h3 h4 h5 h6 h7 h8 h9 h10 hlg tk fx xl xp rmn hdn few mst fal al_32 sv_30 hi sn ch my kp tx rd wy H.size ((al_32 0) - 1) r_34 hlg_35 hi_36 q_37) (cwV 1 hts gX6_add_X6_acted rfl rfl rfl (by decide +kernel) ⟨Nat.le_of_ble_eq_true rfl, Nat.le_of_ble_eq_true rfl⟩) (mPreVS [(W_M cI cC cT h0 h1 h2 h3 h4 h5 h6 h7 h8 h9 h10 hlg tk fx xl xp rmn hdn few mst fal al_32 sv_30 hi sn ch my kp tx rd wy)] rfl hP hD hK hN [0] rfl (by decide) (va_recv hK (sP hP 0 rfl) (ci := 6) (q0 := 0) rfl rfl)) rfl rfl hl.1 rfl (lv_room (Nat.le_of_ble_eq_true rfl)) dX6_add_85 ⟨Nat.zero_le _, Nat.zero_le _⟩) hP hD hS hA [0] rfl rfl rfl rfl (fun H locs hP hD hS => ?_)
              cases hf
              exact mIret hx hb hr hlocks hP hD hK hS dX6_add_88
            · have hf := ite_t hf c_29
              refine lv_bipush (v := -3) hx hb dX6_add_57 (by decide) ?_
              cases hf
              exact mIret hx hb hr hlocks hP hD hK hS dX6_add_59
          · have hf := ite_t hf c_28
            refine lv_bipush (v := -2) hx hb dX6_add_43 (by decide) ?_
            cases hf
            exact mIret hx hb hr hlocks hP hD hK hS dX6_add_45
      · have hf := ite_f hf c_22
        refine lv_iconst (v := -1) hx hb dX6_add_22 (by decide) ?_
        cases hf
        exact mIret hx hb hr hlocks hP hD hK hS dX6_add_23
abbrev rm_X6_of : Room := { frames := 0, cells := 0, slots := 0, locals := 0 }
set_option maxHeartbeats 4000000 in
set_option maxRecDepth 100000 in
theorem c_X6_of (l : Launch) (D : va_G) (cI cC cT : ClassId) (h0 h1 h2 h3 h4 h5 h6 h7 h8 h9 h10 : Nat) (hlg : Int32) (tk : Int32) (fx : Int32) (xl : Int32) (xp : Int32) (rmn : Int32) (hdn : Int32) (few : Int32) (mst : Int32) (fal : Int32) (al : Nat → Int32) (sv : Nat → Int32) (hi : Nat → Int32) (sn : Nat → Int32) (ch : Nat → Int32) (my : Nat → Int32) (kp : Nat → Int32) (tx : Nat → Int32) (rd : Nat → Int32) (wy : Nat → Int32) (sz : Nat) (p0 : Int32) (p1 : Int32) (out : Int32) (hf : f_X6_of al p0 p1 = some out) : Met l yX6_of wsX6_of rm_X6_of (mP D (mTY cI cC cT) [.ref h0, .int p0, .int p1] (List.flatten [(W_M cI cC cT h0 h1 h2 h3 h4 h5 h6 h7 h8 h9 h10 hlg tk fx xl xp rmn hdn few mst fal al sv hi sn ch my kp tx rd wy)]) sz) (mQi D (mTY cI cC cT) out (va_A (List.flatten [(W_M cI cC cT h0 h1 h2 h3 h4 h5 h6 h7 h8 h9 h10 hlg tk fx xl xp rmn hdn few mst fal al sv hi sn ch my kp tx rd wy)]) sz) (List.flatten [(W_M cI cC cT h0 h1 h2 h3 h4 h5 h6 h7 h8 h9 h10 hlg tk fx xl xp rmn hdn few mst fal al sv hi sn ch my kp tx rd wy)])) 0 0 (va_A (List.flatten [(W_M cI cC cT h0 h1 h2 h3 h4 h5 h6 h7 h8 h9 h10 hlg tk fx xl xp rmn hdn few mst fal al sv hi sn ch my kp tx rd wy)]) sz) := by
  refine mEnt (cc := cX6_of) (maxL := 3) (ret := (some .int)) (own := RX6) (Qq := fun A => mQi D (mTY cI cC cT) out A (List.flatten [(W_M cI cC cT h0 h1 h2 h3 h4 h5 h6 h7 h8 h9 h10 hlg tk fx xl xp rmn hdn few mst fal al sv hi sn ch my kp tx rd wy)])) (by decide) rfl rfl (Nat.le_of_ble_eq_true rfl) ?_
  intro p e s m below meth c A ls H locs hx hb hr hml hlocks hown hts hN hA hP hK hD hS hl
  have hin_X6 : ∀ w ∈ u_ws RX6 TX6 20, w ∈ wsX6_of := by decide +kernel
  have fl_7 := hts (.fieldLink RX6 7 "SureMendingsModel" "all" "[I") (by decide +kernel)
  have hl : lv_has ls 3 [(0, .ref h0), (1, .int p0), (2, .int p1)] := hl
  unfold f_X6_of at hf
  refine lv_aload_n hx hb dX6_of_0 rfl (lv_at hl 0 rfl) ?_
  refine va_get (D := D) (ci := 6) (v := .ref h1) (C := RX6) (T := TX6) (N := 20) hx hb hts hin_X6 hown hK hP 0 rfl rfl 0 (by decide) fl_7 (fun _ h9 => h9) rfl dX6_of_1 ?_
  refine lv_iconst (v := 2) hx hb dX6_of_4 (by decide) ?_
  refine lv_iconst (v := 4) hx hb dX6_of_5 (by decide) ?_
  refine lv_iload_n hx hb dX6_of_6 rfl (lv_at hl 1 rfl) ?_
  refine lv_imul hx hb dX6_of_7 ?_
  refine lv_iadd hx hb dX6_of_8 ?_
  refine lv_iload_n hx hb dX6_of_9 rfl (lv_at hl 2 rfl) ?_
  refine lv_iadd hx hb dX6_of_10 ?_
  obtain ⟨h_1, hf⟩ := grd hf
  refine va_iald hx hb hK hP 1 0 rfl rfl h_1 dX6_of_11 ?_
  cases hf
  exact mIret hx hb hr hlocks hP hD hK hS dX6_of_12
abbrev rm_X6_outermost : Room := { frames := 1, cells := 0, slots := 0, locals := 22 }
set_option maxHeartbeats 4000000 in
set_option maxRecDepth 100000 in
theorem c_X6_outermost (l : Launch) (D : va_G) (cI cC cT : ClassId) (h0 h1 h2 h3 h4 h5 h6 h7 h8 h9 h10 : Nat) (hlg : Int32) (tk : Int32) (fx : Int32) (xl : Int32) (xp : Int32) (rmn : Int32) (hdn : Int32) (few : Int32) (mst : Int32) (fal : Int32) (al : Nat → Int32) (sv : Nat → Int32) (hi : Nat → Int32) (sn : Nat → Int32) (ch : Nat → Int32) (my : Nat → Int32) (kp : Nat → Int32) (tx : Nat → Int32) (rd : Nat → Int32) (wy : Nat → Int32) (sz : Nat) (p0 : Int32) (p1 : Int32) (out : Int32) (hf : f_X6_outermost al p0 p1 = some out) : Met l yX6_outermost wsX6_outermost rm_X6_outermost (mP D (mTY cI cC cT) [.ref h0, .int p0, .int p1] (List.flatten [(W_M cI cC cT h0 h1 h2 h3 h4 h5 h6 h7 h8 h9 h10 hlg tk fx xl xp rmn hdn few mst fal al sv hi sn ch my kp tx rd wy)]) sz) (mQi D (mTY cI cC cT) out (va_A (List.flatten [(W_M cI cC cT h0 h1 h2 h3 h4 h5 h6 h7 h8 h9 h10 hlg tk fx xl xp rmn hdn few mst fal al sv hi sn ch my kp tx rd wy)]) sz) (List.flatten [(W_M cI cC cT h0 h1 h2 h3 h4 h5 h6 h7 h8 h9 h10 hlg tk fx xl xp rmn hdn few mst fal al sv hi sn ch my kp tx rd wy)])) 0 0 (va_A (List.flatten [(W_M cI cC cT h0 h1 h2 h3 h4 h5 h6 h7 h8 h9 h10 hlg tk fx xl xp rmn hdn few mst fal al sv hi sn ch my kp tx rd wy)]) sz) := by
  refine mEnt (cc := cX6_outermost) (maxL := 6) (ret := (some .int)) (own := RX6) (Qq := fun A => mQi D (mTY cI cC cT) out A (List.flatten [(W_M cI cC cT h0 h1 h2 h3 h4 h5 h6 h7 h8 h9 h10 hlg tk fx xl xp rmn hdn few mst fal al sv hi sn ch my kp tx rd wy)])) (by decide) rfl rfl (Nat.le_of_ble_eq_true rfl) ?_
  intro p e s m below meth c A ls H locs hx hb hr hml hlocks hown hts hN hA hP hK hD hS hl
  have hin_X6 : ∀ w ∈ u_ws RX6 TX6 20, w ∈ wsX6_outermost := by decide +kernel
  have fl_7 := hts (.fieldLink RX6 7 "SureMendingsModel" "all" "[I") (by decide +kernel)
  have hl : lv_has ls 6 [(0, .ref h0), (1, .int p0), (2, .int p1)] := hl
  unfold f_X6_outermost at hf
  refine lv_bipush (v := -5) hx hb dX6_outermost_0 (by decide) ?_
  refine lv_istore_n (lv' := [(3, .int (-5)), (0, .ref h0), (1, .int p0), (2, .int p1)]) hx hb dX6_outermost_2 rfl hl (by decide) rfl (fun ls hl => ?_)
  refine lv_iconst (v := 0) hx hb dX6_outermost_3 (by decide) ?_
  refine lv_istore (lv' := [(4, .int 0), (3, .int (-5)), (0, .ref h0), (1, .int p0), (2, .int p1)]) hx hb dX6_outermost_4 hl (by decide) rfl (fun ls hl => ?_)
  have LP_3 : ∀ (n_3 : Nat) (v3_1 : Int32) (v4_2 : Int32), iter n_3 (b_X6_outermost_1 al p0 p1) ((v3_1, v4_2)) = some out → ∀ (H : Heap) (locs : List Loc), va_P D vwCl (List.flatten [(W_M cI cC cT h0 h1 h2 h3 h4 h5 h6 h7 h8 h9 h10 hlg tk fx xl xp rmn hdn few mst fal al sv hi sn ch my kp tx rd wy)]) H → va_D A (List.flatten [(W_M cI cC cT h0 h1 h2 h3 h4 h5 h6 h7 h8 h9 h10 hlg tk fx xl xp rmn hdn few mst fal al sv hi sn ch my kp tx rd wy)]) → va_S A s.heap H locs → ∀ (ls : Array Slot), lv_has ls 6 [(0, .ref h0), (1, .int p0), (2, .int p1), (3, .int v3_1), (4, .int v4_2)] → W p l e rm_X6_outermost s m ([.ref h0, .int p0, .int p1] : List Value).toArray below meth c H locs 0 0 (MQ below (mQi D (mTY cI cC cT) out A (List.flatten [(W_M cI cC cT h0 h1 h2 h3 h4 h5 h6 h7 h8 h9 h10 hlg tk fx xl xp rmn hdn few mst fal al sv hi sn ch my kp tx rd wy)])) ([.ref h0, .int p0, .int p1] : List Value).toArray s 0 0 A) (F0 m 6 ls []) := by
    intro n_3
    induction n_3 with
    | zero => intro v3_1 v4_2 hf; exact (iter_zero hf).elim
    | succ n_3 ih_3 =>
      intro v3_1 v4_2 hf H locs hP hD hS ls hl
      obtain ⟨o_3, hf, ho_3⟩ := iter_succ hf
      dsimp only [b_X6_outermost_1] at hf
      refine lv_iload hx hb dX6_outermost_6 (lv_at hl 4 rfl) ?_
      refine lv_aload_n hx hb dX6_outermost_8 rfl (lv_at hl 0 rfl) ?_
      refine va_get (D := D) (ci := 6) (v := .ref h1) (C := RX6) (T := TX6) (N := 20) hx hb hts hin_X6 hown hK hP 0 rfl rfl 0 (by decide) fl_7 (fun _ h9 => h9) rfl dX6_outermost_9 ?_
      refine lv_iconst (v := 0) hx hb dX6_outermost_12 (by decide) ?_
      refine va_iald hx hb hK hP 1 0 rfl rfl (i := 0) (by unfold vp_in; decide) dX6_outermost_13 ?_
      refine lv_tope (y := al 0) rfl ?_
      refine lv_icmp_ge (tgt := 93) hx hb dX6_outermost_14 (by decide) (fun c_4 => ?_) (fun c_4 => ?_)
      · have hf := ite_t hf c_4
        refine lv_iload_n hx hb dX6_outermost_93 rfl (lv_at hl 3 rfl) ?_
        cases hf
        have hf := ho_3.2 _ rfl
        cases hf
        exact mIret hx hb hr hlocks hP hD hK hS dX6_outermost_94
      · have hf := ite_f hf c_4
        refine lv_aload_n hx hb dX6_outermost_17 rfl (lv_at hl 0 rfl) ?_
        refine lv_iload hx hb dX6_outermost_18 (lv_at hl 4 rfl) ?_
        refine lv_iconst (v := 0) hx hb dX6_outermost_20 (by decide) ?_
        obtain ⟨r_5, q_6, hf⟩ := bnd hf
        refine mGoiS (segs := [(W_M cI cC cT h0 h1 h2 h3 h4 h5 h6 h7 h8 h9 h10 hlg tk fx xl xp rmn hdn few mst fal al sv hi sn ch my kp tx rd wy)]) (wcs := [(W_M cI cC cT h0 h1 h2 h3 h4 h5 h6 h7 h8 h9 h10 hlg tk fx xl xp rmn hdn few mst fal al sv hi sn ch my kp tx rd wy)]) (w1s := [(W_M cI cC cT h0 h1 h2 h3 h4 h5 h6 h7 h8 h9 h10 hlg tk fx xl xp rmn hdn few mst fal al sv hi sn ch my kp tx rd wy)]) (w2s := [(W_M cI cC cT h0 h1 h2 h3 h4 h5 h6 h7 h8 h9 h10 hlg tk fx xl xp rmn hdn few mst fal al sv hi sn ch my kp tx rd wy)]) rfl rfl (va_runV (As := [.int v4_2, .int 0]) (rest := []) ⟨hx, hb, hml, hown, hts⟩ (c_X6_of l D cI cC cT h0 h1 h2 h3 h4 h5 h6 h7 h8 h9 h10 hlg tk fx xl xp rmn hdn few mst fal al sv hi sn ch my kp tx rd wy H.size v4_2 0 r_5 q_6) (cwV 2 hts gX6_outermost_X6_of rfl rfl rfl (by decide +kernel) ⟨Nat.le_of_ble_eq_true rfl, Nat.le_of_ble_eq_true rfl⟩) (mPreVS [(W_M cI cC cT h0 h1 h2 h3 h4 h5 h6 h7 h8 h9 h10 hlg tk fx xl xp rmn hdn few mst fal al sv hi sn ch my kp tx rd wy)] rfl hP hD hK hN [0] rfl (by decide) (va_recv hK (sP hP 0 rfl) (ci := 6) (q0 := 0) rfl rfl)) rfl rfl hl.1 rfl (lv_room (Nat.le_of_ble_eq_true rfl)) dX6_outermost_21 ⟨Nat.zero_le _, Nat.zero_le _⟩) hP hD hS hA [0] rfl rfl rfl rfl (fun H locs hP hD hS => ?_)
        refine lv_iload_n hx hb dX6_outermost_24 rfl (lv_at hl 1 rfl) ?_
        obtain ⟨x_7, q_9, hf⟩ := bnd hf
        have K_8 : ∀ (H : Heap) (locs : List Loc), va_P D vwCl (List.flatten [(W_M cI cC cT h0 h1 h2 h3 h4 h5 h6 h7 h8 h9 h10 hlg tk fx xl xp rmn hdn few mst fal al sv hi sn ch my kp tx rd wy)]) H → va_D A (List.flatten [(W_M cI cC cT h0 h1 h2 h3 h4 h5 h6 h7 h8 h9 h10 hlg tk fx xl xp rmn hdn few mst fal al sv hi sn ch my kp tx rd wy)]) → va_S A s.heap H locs → ∀ (ls : Array Slot), lv_has ls 6 [(0, .ref h0), (1, .int p0), (2, .int p1), (3, .int x_7), (4, .int v4_2)] → W p l e rm_X6_outermost s m ([.ref h0, .int p0, .int p1] : List Value).toArray below meth c H locs 0 0 (MQ below (mQi D (mTY cI cC cT) out A (List.flatten [(W_M cI cC cT h0 h1 h2 h3 h4 h5 h6 h7 h8 h9 h10 hlg tk fx xl xp rmn hdn few mst fal al sv hi sn ch my kp tx rd wy)])) ([.ref h0, .int p0, .int p1] : List Value).toArray s 0 0 A) (F0 m 87 ls []) := by
          intro H locs hP hD hS ls hl
          refine lv_iinc (v := v4_2 + 1) (lv' := [(4, .int (v4_2 + 1)), (0, .ref h0), (1, .int p0), (2, .int p1), (3, .int x_7)]) hx hb dX6_outermost_87 hl (k := 4) rfl rfl (by decide) rfl (fun ls hl => ?_)
          refine lv_goto (tgt := 6) hx hb dX6_outermost_90 (by decide) ?_
          cases hf
          have hf := ho_3.1 _ rfl
          exact ih_3 _ _ hf _ _ hP hD hS _ (lv_sub hl [1, 2, 3, 4, 0] rfl)
        have hf := q_9
        refine lv_icmp_ne (tgt := 87) hx hb dX6_outermost_25 (by decide) (fun c_10 => ?_) (fun c_10 => ?_)
        · have hf := ite_f hf c_10
          cases hf
          exact K_8 _ _ hP hD hS _ (lv_sub hl [0, 1, 2, 3, 4] rfl)
        · have hf := ite_t hf c_10
          refine lv_iload_n hx hb dX6_outermost_28 rfl (lv_at hl 3 rfl) ?_
          refine lv_bipush (v := -5) hx hb dX6_outermost_29 (by decide) ?_
          obtain ⟨x_11, q_13, hf⟩ := bnd hf
          have K_12 : ∀ (H : Heap) (locs : List Loc), va_P D vwCl (List.flatten [(W_M cI cC cT h0 h1 h2 h3 h4 h5 h6 h7 h8 h9 h10 hlg tk fx xl xp rmn hdn few mst fal al sv hi sn ch my kp tx rd wy)]) H → va_D A (List.flatten [(W_M cI cC cT h0 h1 h2 h3 h4 h5 h6 h7 h8 h9 h10 hlg tk fx xl xp rmn hdn few mst fal al sv hi sn ch my kp tx rd wy)]) → va_S A s.heap H locs → ∀ (ls : Array Slot), lv_has ls 6 [(0, .ref h0), (1, .int p0), (2, .int p1), (3, .int v3_1), (4, .int v4_2)] → W p l e rm_X6_outermost s m ([.ref h0, .int p0, .int p1] : List Value).toArray below meth c H locs 0 0 (MQ below (mQi D (mTY cI cC cT) out A (List.flatten [(W_M cI cC cT h0 h1 h2 h3 h4 h5 h6 h7 h8 h9 h10 hlg tk fx xl xp rmn hdn few mst fal al sv hi sn ch my kp tx rd wy)])) ([.ref h0, .int p0, .int p1] : List Value).toArray s 0 0 A) (F0 m 73 ls [.int x_11]) := by
            intro H locs hP hD hS ls hl
            refine lv_istore (lv' := [(5, .int x_11), (0, .ref h0), (1, .int p0), (2, .int p1), (3, .int v3_1), (4, .int v4_2)]) hx hb dX6_outermost_73 hl (by decide) rfl (fun ls hl => ?_)
            refine lv_iload hx hb dX6_outermost_75 (lv_at hl 0 rfl) ?_
            obtain ⟨x_24, q_26, hf⟩ := bnd hf
            have K_25 : ∀ (H : Heap) (locs : List Loc), va_P D vwCl (List.flatten [(W_M cI cC cT h0 h1 h2 h3 h4 h5 h6 h7 h8 h9 h10 hlg tk fx xl xp rmn hdn few mst fal al sv hi sn ch my kp tx rd wy)]) H → va_D A (List.flatten [(W_M cI cC cT h0 h1 h2 h3 h4 h5 h6 h7 h8 h9 h10 hlg tk fx xl xp rmn hdn few mst fal al sv hi sn ch my kp tx rd wy)]) → va_S A s.heap H locs → ∀ (ls : Array Slot), lv_has ls 6 [(0, .ref h0), (1, .int p0), (2, .int p1), (4, .int v4_2)] → W p l e rm_X6_outermost s m ([.ref h0, .int p0, .int p1] : List Value).toArray below meth c H locs 0 0 (MQ below (mQi D (mTY cI cC cT) out A (List.flatten [(W_M cI cC cT h0 h1 h2 h3 h4 h5 h6 h7 h8 h9 h10 hlg tk fx xl xp rmn hdn few mst fal al sv hi sn ch my kp tx rd wy)])) ([.ref h0, .int p0, .int p1] : List Value).toArray s 0 0 A) (F0 m 86 ls [.int x_24]) := by
              intro H locs hP hD hS ls hl
              refine lv_istore_n (lv' := [(3, .int x_24), (0, .ref h0), (1, .int p0), (2, .int p1), (4, .int v4_2)]) hx hb dX6_outermost_86 rfl hl (by decide) rfl (fun ls hl => ?_)
              cases hf
              exact K_8 _ _ hP hD hS _ (lv_sub hl [1, 2, 3, 0, 4] rfl)
            have hf := q_26
            refine lv_if_le (tgt := 85) hx hb dX6_outermost_77 (by decide) (fun c_27 => ?_) (fun c_27 => ?_)
            · have hf := ite_t hf c_27
              refine lv_iload_n hx hb dX6_outermost_85 rfl (lv_at hl 4 rfl) ?_
              cases hf
              exact K_25 _ _ hP hD hS _ (lv_sub hl [1, 2, 3, 5] rfl)
            · have hf := ite_f hf c_27
              refine lv_iload hx hb dX6_outermost_80 (lv_at hl 5 rfl) ?_
              refine lv_goto (tgt := 86) hx hb dX6_outermost_82 (by decide) ?_
              cases hf
              exact K_25 _ _ hP hD hS _ (lv_sub hl [1, 2, 3, 5] rfl)
          have hf := q_13
          refine lv_icmp_ne (tgt := 38) hx hb dX6_outermost_31 (by decide) (fun c_14 => ?_) (fun c_14 => ?_)
          · have hf := ite_f hf c_14
            refine lv_iload_n hx hb dX6_outermost_38 rfl (lv_at hl 2 rfl) ?_
            refine lv_if_eq (tgt := 59) hx hb dX6_outermost_39 (by decide) (fun c_15 => ?_) (fun c_15 => ?_)
            · have hf := ite_t hf c_15
              refine lv_aload_n hx hb dX6_outermost_59 rfl (lv_at hl 0 rfl) ?_
              refine lv_iload_n hx hb dX6_outermost_60 rfl (lv_at hl 3 rfl) ?_
              refine lv_iconst (v := 2) hx hb dX6_outermost_61 (by decide) ?_
              obtain ⟨r_16, q_17, hf⟩ := bnd hf
              refine mGoiS (segs := [(W_M cI cC cT h0 h1 h2 h3 h4 h5 h6 h7 h8 h9 h10 hlg tk fx xl xp rmn hdn few mst fal al sv hi sn ch my kp tx rd wy)]) (wcs := [(W_M cI cC cT h0 h1 h2 h3 h4 h5 h6 h7 h8 h9 h10 hlg tk fx xl xp rmn hdn few mst fal al sv hi sn ch my kp tx rd wy)]) (w1s := [(W_M cI cC cT h0 h1 h2 h3 h4 h5 h6 h7 h8 h9 h10 hlg tk fx xl xp rmn hdn few mst fal al sv hi sn ch my kp tx rd wy)]) (w2s := [(W_M cI cC cT h0 h1 h2 h3 h4 h5 h6 h7 h8 h9 h10 hlg tk fx xl xp rmn hdn few mst fal al sv hi sn ch my kp tx rd wy)]) rfl rfl (va_runV (As := [.int v3_1, .int 2]) (rest := []) ⟨hx, hb, hml, hown, hts⟩ (c_X6_of l D cI cC cT h0 h1 h2 h3 h4 h5 h6 h7 h8 h9 h10 hlg tk fx xl xp rmn hdn few mst fal al sv hi sn ch my kp tx rd wy H.size v3_1 2 r_16 q_17) (cwV 2 hts gX6_outermost_X6_of rfl rfl rfl (by decide +kernel) ⟨Nat.le_of_ble_eq_true rfl, Nat.le_of_ble_eq_true rfl⟩) (mPreVS [(W_M cI cC cT h0 h1 h2 h3 h4 h5 h6 h7 h8 h9 h10 hlg tk fx xl xp rmn hdn few mst fal al sv hi sn ch my kp tx rd wy)] rfl hP hD hK hN [0] rfl (by decide) (va_recv hK (sP hP 0 rfl) (ci := 6) (q0 := 0) rfl rfl)) rfl rfl hl.1 rfl (lv_room (Nat.le_of_ble_eq_true rfl)) dX6_outermost_62 ⟨Nat.zero_le _, Nat.zero_le _⟩) hP hD hS hA [0] rfl rfl rfl rfl (fun H locs hP hD hS => ?_)
              refine lv_aload_n hx hb dX6_outermost_65 rfl (lv_at hl 0 rfl) ?_
              refine lv_iload hx hb dX6_outermost_66 (lv_at hl 4 rfl) ?_
              refine lv_iconst (v := 2) hx hb dX6_outermost_68 (by decide) ?_
              obtain ⟨r_18, q_19, hf⟩ := bnd hf
              refine mGoiS (segs := [(W_M cI cC cT h0 h1 h2 h3 h4 h5 h6 h7 h8 h9 h10 hlg tk fx xl xp rmn hdn few mst fal al sv hi sn ch my kp tx rd wy)]) (wcs := [(W_M cI cC cT h0 h1 h2 h3 h4 h5 h6 h7 h8 h9 h10 hlg tk fx xl xp rmn hdn few mst fal al sv hi sn ch my kp tx rd wy)]) (w1s := [(W_M cI cC cT h0 h1 h2 h3 h4 h5 h6 h7 h8 h9 h10 hlg tk fx xl xp rmn hdn few mst fal al sv hi sn ch my kp tx rd wy)]) (w2s := [(W_M cI cC cT h0 h1 h2 h3 h4 h5 h6 h7 h8 h9 h10 hlg tk fx xl xp rmn hdn few mst fal al sv hi sn ch my kp tx rd wy)]) rfl rfl (va_runV (As := [.int v4_2, .int 2]) (rest := [.int r_16]) ⟨hx, hb, hml, hown, hts⟩ (c_X6_of l D cI cC cT h0 h1 h2 h3 h4 h5 h6 h7 h8 h9 h10 hlg tk fx xl xp rmn hdn few mst fal al sv hi sn ch my kp tx rd wy H.size v4_2 2 r_18 q_19) (cwV 2 hts gX6_outermost_X6_of rfl rfl rfl (by decide +kernel) ⟨Nat.le_of_ble_eq_true rfl, Nat.le_of_ble_eq_true rfl⟩) (mPreVS [(W_M cI cC cT h0 h1 h2 h3 h4 h5 h6 h7 h8 h9 h10 hlg tk fx xl xp rmn hdn few mst fal al sv hi sn ch my kp tx rd wy)] rfl hP hD hK hN [0] rfl (by decide) (va_recv hK (sP hP 0 rfl) (ci := 6) (q0 := 0) rfl rfl)) rfl rfl hl.1 rfl (lv_room (Nat.le_of_ble_eq_true rfl)) dX6_outermost_69 ⟨Nat.zero_le _, Nat.zero_le _⟩) hP hD hS hA [0] rfl rfl rfl rfl (fun H locs hP hD hS => ?_)
              refine lv_isub hx hb dX6_outermost_72 ?_
              cases hf
              exact K_12 _ _ hP hD hS _ (lv_sub hl [0, 1, 2, 3, 4] rfl)
            · have hf := ite_f hf c_15
              refine lv_aload_n hx hb dX6_outermost_42 rfl (lv_at hl 0 rfl) ?_
              refine lv_iload hx hb dX6_outermost_43 (lv_at hl 4 rfl) ?_
              refine lv_iconst (v := 2) hx hb dX6_outermost_45 (by decide) ?_
              obtain ⟨r_20, q_21, hf⟩ := bnd hf
              refine mGoiS (segs := [(W_M cI cC cT h0 h1 h2 h3 h4 h5 h6 h7 h8 h9 h10 hlg tk fx xl xp rmn hdn few mst fal al sv hi sn ch my kp tx rd wy)]) (wcs := [(W_M cI cC cT h0 h1 h2 h3 h4 h5 h6 h7 h8 h9 h10 hlg tk fx xl xp rmn hdn few mst fal al sv hi sn ch my kp tx rd wy)]) (w1s := [(W_M cI cC cT h0 h1 h2 h3 h4 h5 h6 h7 h8 h9 h10 hlg tk fx xl xp rmn hdn few mst fal al sv hi sn ch my kp tx rd wy)]) (w2s := [(W_M cI cC cT h0 h1 h2 h3 h4 h5 h6 h7 h8 h9 h10 hlg tk fx xl xp rmn hdn few mst fal al sv hi sn ch my kp tx rd wy)]) rfl rfl (va_runV (As := [.int v4_2, .int 2]) (rest := []) ⟨hx, hb, hml, hown, hts⟩ (c_X6_of l D cI cC cT h0 h1 h2 h3 h4 h5 h6 h7 h8 h9 h10 hlg tk fx xl xp rmn hdn few mst fal al sv hi sn ch my kp tx rd wy H.size v4_2 2 r_20 q_21) (cwV 2 hts gX6_outermost_X6_of rfl rfl rfl (by decide +kernel) ⟨Nat.le_of_ble_eq_true rfl, Nat.le_of_ble_eq_true rfl⟩) (mPreVS [(W_M cI cC cT h0 h1 h2 h3 h4 h5 h6 h7 h8 h9 h10 hlg tk fx xl xp rmn hdn few mst fal al sv hi sn ch my kp tx rd wy)] rfl hP hD hK hN [0] rfl (by decide) (va_recv hK (sP hP 0 rfl) (ci := 6) (q0 := 0) rfl rfl)) rfl rfl hl.1 rfl (lv_room (Nat.le_of_ble_eq_true rfl)) dX6_outermost_46 ⟨Nat.zero_le _, Nat.zero_le _⟩) hP hD hS hA [0] rfl rfl rfl rfl (fun H locs hP hD hS => ?_)
              refine lv_aload_n hx hb dX6_outermost_49 rfl (lv_at hl 0 rfl) ?_
              refine lv_iload_n hx hb dX6_outermost_50 rfl (lv_at hl 3 rfl) ?_
              refine lv_iconst (v := 2) hx hb dX6_outermost_51 (by decide) ?_
              obtain ⟨r_22, q_23, hf⟩ := bnd hf
              refine mGoiS (segs := [(W_M cI cC cT h0 h1 h2 h3 h4 h5 h6 h7 h8 h9 h10 hlg tk fx xl xp rmn hdn few mst fal al sv hi sn ch my kp tx rd wy)]) (wcs := [(W_M cI cC cT h0 h1 h2 h3 h4 h5 h6 h7 h8 h9 h10 hlg tk fx xl xp rmn hdn few mst fal al sv hi sn ch my kp tx rd wy)]) (w1s := [(W_M cI cC cT h0 h1 h2 h3 h4 h5 h6 h7 h8 h9 h10 hlg tk fx xl xp rmn hdn few mst fal al sv hi sn ch my kp tx rd wy)]) (w2s := [(W_M cI cC cT h0 h1 h2 h3 h4 h5 h6 h7 h8 h9 h10 hlg tk fx xl xp rmn hdn few mst fal al sv hi sn ch my kp tx rd wy)]) rfl rfl (va_runV (As := [.int v3_1, .int 2]) (rest := [.int r_20]) ⟨hx, hb, hml, hown, hts⟩ (c_X6_of l D cI cC cT h0 h1 h2 h3 h4 h5 h6 h7 h8 h9 h10 hlg tk fx xl xp rmn hdn few mst fal al sv hi sn ch my kp tx rd wy H.size v3_1 2 r_22 q_23) (cwV 2 hts gX6_outermost_X6_of rfl rfl rfl (by decide +kernel) ⟨Nat.le_of_ble_eq_true rfl, Nat.le_of_ble_eq_true rfl⟩) (mPreVS [(W_M cI cC cT h0 h1 h2 h3 h4 h5 h6 h7 h8 h9 h10 hlg tk fx xl xp rmn hdn few mst fal al sv hi sn ch my kp tx rd wy)] rfl hP hD hK hN [0] rfl (by decide) (va_recv hK (sP hP 0 rfl) (ci := 6) (q0 := 0) rfl rfl)) rfl rfl hl.1 rfl (lv_room (Nat.le_of_ble_eq_true rfl)) dX6_outermost_52 ⟨Nat.zero_le _, Nat.zero_le _⟩) hP hD hS hA [0] rfl rfl rfl rfl (fun H locs hP hD hS => ?_)
              refine lv_isub hx hb dX6_outermost_55 ?_
              refine lv_goto (tgt := 73) hx hb dX6_outermost_56 (by decide) ?_
              cases hf
              exact K_12 _ _ hP hD hS _ (lv_sub hl [0, 1, 2, 3, 4] rfl)
          · have hf := ite_t hf c_14
            refine lv_iconst (v := 1) hx hb dX6_outermost_34 (by decide) ?_
            refine lv_goto (tgt := 73) hx hb dX6_outermost_35 (by decide) ?_
            cases hf
            exact K_12 _ _ hP hD hS _ (lv_sub hl [0, 1, 2, 3, 4] rfl)
  exact LP_3 _ _ _ hf _ _ hP hD hS _ (lv_sub hl [2, 3, 4, 1, 0] rfl)
abbrev rm_X6_canBeKept : Room := { frames := 2, cells := 0, slots := 0, locals := 47 }
set_option maxHeartbeats 4000000 in
set_option maxRecDepth 100000 in
theorem c_X6_canBeKept (l : Launch) (D : va_G) (cI cC cT : ClassId) (h0 h1 h2 h3 h4 h5 h6 h7 h8 h9 h10 : Nat) (hlg : Int32) (tk : Int32) (fx : Int32) (xl : Int32) (xp : Int32) (rmn : Int32) (hdn : Int32) (few : Int32) (mst : Int32) (fal : Int32) (al : Nat → Int32) (sv : Nat → Int32) (hi : Nat → Int32) (sn : Nat → Int32) (ch : Nat → Int32) (my : Nat → Int32) (kp : Nat → Int32) (tx : Nat → Int32) (rd : Nat → Int32) (wy : Nat → Int32) (sz : Nat) (p0 : Int32) (out : Int32) (hf : f_X6_canBeKept al p0 = some out) : Met l yX6_canBeKept wsX6_canBeKept rm_X6_canBeKept (mP D (mTY cI cC cT) [.ref h0, .int p0] (List.flatten [(W_M cI cC cT h0 h1 h2 h3 h4 h5 h6 h7 h8 h9 h10 hlg tk fx xl xp rmn hdn few mst fal al sv hi sn ch my kp tx rd wy)]) sz) (mQi D (mTY cI cC cT) out (va_A (List.flatten [(W_M cI cC cT h0 h1 h2 h3 h4 h5 h6 h7 h8 h9 h10 hlg tk fx xl xp rmn hdn few mst fal al sv hi sn ch my kp tx rd wy)]) sz) (List.flatten [(W_M cI cC cT h0 h1 h2 h3 h4 h5 h6 h7 h8 h9 h10 hlg tk fx xl xp rmn hdn few mst fal al sv hi sn ch my kp tx rd wy)])) 0 0 (va_A (List.flatten [(W_M cI cC cT h0 h1 h2 h3 h4 h5 h6 h7 h8 h9 h10 hlg tk fx xl xp rmn hdn few mst fal al sv hi sn ch my kp tx rd wy)]) sz) := by
  refine mEnt (cc := cX6_canBeKept) (maxL := 2) (ret := (some .boolean)) (own := RX6) (Qq := fun A => mQi D (mTY cI cC cT) out A (List.flatten [(W_M cI cC cT h0 h1 h2 h3 h4 h5 h6 h7 h8 h9 h10 hlg tk fx xl xp rmn hdn few mst fal al sv hi sn ch my kp tx rd wy)])) (by decide) rfl rfl (Nat.le_of_ble_eq_true rfl) ?_
  intro p e s m below meth c A ls H locs hx hb hr hml hlocks hown hts hN hA hP hK hD hS hl
  have hin_X6 : ∀ w ∈ u_ws RX6 TX6 20, w ∈ wsX6_canBeKept := by decide +kernel
  have fl_7 := hts (.fieldLink RX6 7 "SureMendingsModel" "all" "[I") (by decide +kernel)
  have hl : lv_has ls 2 [(0, .ref h0), (1, .int p0)] := hl
  unfold f_X6_canBeKept at hf
  refine lv_aload_n hx hb dX6_canBeKept_0 rfl (lv_at hl 0 rfl) ?_
  refine va_get (D := D) (ci := 6) (v := .ref h1) (C := RX6) (T := TX6) (N := 20) hx hb hts hin_X6 hown hK hP 0 rfl rfl 0 (by decide) fl_7 (fun _ h9 => h9) rfl dX6_canBeKept_1 ?_
  refine lv_iconst (v := 1) hx hb dX6_canBeKept_4 (by decide) ?_
  refine va_iald hx hb hK hP 1 0 rfl rfl (i := 1) (by unfold vp_in; decide) dX6_canBeKept_5 ?_
  refine lv_tope (y := al 1) rfl ?_
  refine lv_if_eq (tgt := 34) hx hb dX6_canBeKept_6 (by decide) (fun c_1 => ?_) (fun c_1 => ?_)
  · have hf := ite_t hf c_1
    refine lv_iconst (v := 1) hx hb dX6_canBeKept_34 (by decide) ?_
    refine lv_goto (tgt := 39) hx hb dX6_canBeKept_35 (by decide) ?_
    cases hf
    exact mZret hx hb hr rfl hlocks hP hD hK hS dX6_canBeKept_39
  · have hf := ite_f hf c_1
    refine lv_aload_n hx hb dX6_canBeKept_9 rfl (lv_at hl 0 rfl) ?_
    refine lv_iload_n hx hb dX6_canBeKept_10 rfl (lv_at hl 1 rfl) ?_
    refine lv_iconst (v := 2) hx hb dX6_canBeKept_11 (by decide) ?_
    obtain ⟨r_2, q_3, hf⟩ := bnd hf
    refine mGoiS (segs := [(W_M cI cC cT h0 h1 h2 h3 h4 h5 h6 h7 h8 h9 h10 hlg tk fx xl xp rmn hdn few mst fal al sv hi sn ch my kp tx rd wy)]) (wcs := [(W_M cI cC cT h0 h1 h2 h3 h4 h5 h6 h7 h8 h9 h10 hlg tk fx xl xp rmn hdn few mst fal al sv hi sn ch my kp tx rd wy)]) (w1s := [(W_M cI cC cT h0 h1 h2 h3 h4 h5 h6 h7 h8 h9 h10 hlg tk fx xl xp rmn hdn few mst fal al sv hi sn ch my kp tx rd wy)]) (w2s := [(W_M cI cC cT h0 h1 h2 h3 h4 h5 h6 h7 h8 h9 h10 hlg tk fx xl xp rmn hdn few mst fal al sv hi sn ch my kp tx rd wy)]) rfl rfl (va_runV (As := [.int p0, .int 2]) (rest := []) ⟨hx, hb, hml, hown, hts⟩ (c_X6_of l D cI cC cT h0 h1 h2 h3 h4 h5 h6 h7 h8 h9 h10 hlg tk fx xl xp rmn hdn few mst fal al sv hi sn ch my kp tx rd wy H.size p0 2 r_2 q_3) (cwV 2 hts gX6_canBeKept_X6_of rfl rfl rfl (by decide +kernel) ⟨Nat.le_of_ble_eq_true rfl, Nat.le_of_ble_eq_true rfl⟩) (mPreVS [(W_M cI cC cT h0 h1 h2 h3 h4 h5 h6 h7 h8 h9 h10 hlg tk fx xl xp rmn hdn few mst fal al sv hi sn ch my kp tx rd wy)] rfl hP hD hK hN [0] rfl (by decide) (va_recv hK (sP hP 0 rfl) (ci := 6) (q0 := 0) rfl rfl)) rfl rfl hl.1 rfl (lv_room (Nat.le_of_ble_eq_true rfl)) dX6_canBeKept_12 ⟨Nat.zero_le _, Nat.zero_le _⟩) hP hD hS hA [0] rfl rfl rfl rfl (fun H locs hP hD hS => ?_)
    refine lv_aload_n hx hb dX6_canBeKept_15 rfl (lv_at hl 0 rfl) ?_
    refine lv_aload_n hx hb dX6_canBeKept_16 rfl (lv_at hl 0 rfl) ?_
    refine lv_aload_n hx hb dX6_canBeKept_17 rfl (lv_at hl 0 rfl) ?_
    refine lv_iload_n hx hb dX6_canBeKept_18 rfl (lv_at hl 1 rfl) ?_
    refine lv_iconst (v := 0) hx hb dX6_canBeKept_19 (by decide) ?_
    obtain ⟨r_4, q_5, hf⟩ := bnd hf
    refine mGoiS (segs := [(W_M cI cC cT h0 h1 h2 h3 h4 h5 h6 h7 h8 h9 h10 hlg tk fx xl xp rmn hdn few mst fal al sv hi sn ch my kp tx rd wy)]) (wcs := [(W_M cI cC cT h0 h1 h2 h3 h4 h5 h6 h7 h8 h9 h10 hlg tk fx xl xp rmn hdn few mst fal al sv hi sn ch my kp tx rd wy)]) (w1s := [(W_M cI cC cT h0 h1 h2 h3 h4 h5 h6 h7 h8 h9 h10 hlg tk fx xl xp rmn hdn few mst fal al sv hi sn ch my kp tx rd wy)]) (w2s := [(W_M cI cC cT h0 h1 h2 h3 h4 h5 h6 h7 h8 h9 h10 hlg tk fx xl xp rmn hdn few mst fal al sv hi sn ch my kp tx rd wy)]) rfl rfl (va_runV (As := [.int p0, .int 0]) (rest := [.ref h0, .ref h0, .int r_2]) ⟨hx, hb, hml, hown, hts⟩ (c_X6_of l D cI cC cT h0 h1 h2 h3 h4 h5 h6 h7 h8 h9 h10 hlg tk fx xl xp rmn hdn few mst fal al sv hi sn ch my kp tx rd wy H.size p0 0 r_4 q_5) (cwV 2 hts gX6_canBeKept_X6_of rfl rfl rfl (by decide +kernel) ⟨Nat.le_of_ble_eq_true rfl, Nat.le_of_ble_eq_true rfl⟩) (mPreVS [(W_M cI cC cT h0 h1 h2 h3 h4 h5 h6 h7 h8 h9 h10 hlg tk fx xl xp rmn hdn few mst fal al sv hi sn ch my kp tx rd wy)] rfl hP hD hK hN [0] rfl (by decide) (va_recv hK (sP hP 0 rfl) (ci := 6) (q0 := 0) rfl rfl)) rfl rfl hl.1 rfl (lv_room (Nat.le_of_ble_eq_true rfl)) dX6_canBeKept_20 ⟨Nat.zero_le _, Nat.zero_le _⟩) hP hD hS hA [0] rfl rfl rfl rfl (fun H locs hP hD hS => ?_)
    refine lv_iconst (v := 1) hx hb dX6_canBeKept_23 (by decide) ?_
    obtain ⟨r_6, q_7, hf⟩ := bnd hf
    refine mGoiS (segs := [(W_M cI cC cT h0 h1 h2 h3 h4 h5 h6 h7 h8 h9 h10 hlg tk fx xl xp rmn hdn few mst fal al sv hi sn ch my kp tx rd wy)]) (wcs := [(W_M cI cC cT h0 h1 h2 h3 h4 h5 h6 h7 h8 h9 h10 hlg tk fx xl xp rmn hdn few mst fal al sv hi sn ch my kp tx rd wy)]) (w1s := [(W_M cI cC cT h0 h1 h2 h3 h4 h5 h6 h7 h8 h9 h10 hlg tk fx xl xp rmn hdn few mst fal al sv hi sn ch my kp tx rd wy)]) (w2s := [(W_M cI cC cT h0 h1 h2 h3 h4 h5 h6 h7 h8 h9 h10 hlg tk fx xl xp rmn hdn few mst fal al sv hi sn ch my kp tx rd wy)]) rfl rfl (va_runV (As := [.int r_4, .int 1]) (rest := [.ref h0, .int r_2]) ⟨hx, hb, hml, hown, hts⟩ (c_X6_outermost l D cI cC cT h0 h1 h2 h3 h4 h5 h6 h7 h8 h9 h10 hlg tk fx xl xp rmn hdn few mst fal al sv hi sn ch my kp tx rd wy H.size r_4 1 r_6 q_7) (cwV 2 hts gX6_canBeKept_X6_outermost rfl rfl rfl (by decide +kernel) ⟨Nat.le_of_ble_eq_true rfl, Nat.le_of_ble_eq_true rfl⟩) (mPreVS [(W_M cI cC cT h0 h1 h2 h3 h4 h5 h6 h7 h8 h9 h10 hlg tk fx xl xp rmn hdn few mst fal al sv hi sn ch my kp tx rd wy)] rfl hP hD hK hN [0] rfl (by decide) (va_recv hK (sP hP 0 rfl) (ci := 6) (q0 := 0) rfl rfl)) rfl rfl hl.1 rfl (lv_room (Nat.le_of_ble_eq_true rfl)) dX6_canBeKept_24 ⟨Nat.zero_le _, Nat.zero_le _⟩) hP hD hS hA [0] rfl rfl rfl rfl (fun H locs hP hD hS => ?_)
    refine lv_iconst (v := 2) hx hb dX6_canBeKept_27 (by decide) ?_
    obtain ⟨r_8, q_9, hf⟩ := bnd hf
    refine mGoiS (segs := [(W_M cI cC cT h0 h1 h2 h3 h4 h5 h6 h7 h8 h9 h10 hlg tk fx xl xp rmn hdn few mst fal al sv hi sn ch my kp tx rd wy)]) (wcs := [(W_M cI cC cT h0 h1 h2 h3 h4 h5 h6 h7 h8 h9 h10 hlg tk fx xl xp rmn hdn few mst fal al sv hi sn ch my kp tx rd wy)]) (w1s := [(W_M cI cC cT h0 h1 h2 h3 h4 h5 h6 h7 h8 h9 h10 hlg tk fx xl xp rmn hdn few mst fal al sv hi sn ch my kp tx rd wy)]) (w2s := [(W_M cI cC cT h0 h1 h2 h3 h4 h5 h6 h7 h8 h9 h10 hlg tk fx xl xp rmn hdn few mst fal al sv hi sn ch my kp tx rd wy)]) rfl rfl (va_runV (As := [.int r_6, .int 2]) (rest := [.int r_2]) ⟨hx, hb, hml, hown, hts⟩ (c_X6_of l D cI cC cT h0 h1 h2 h3 h4 h5 h6 h7 h8 h9 h10 hlg tk fx xl xp rmn hdn few mst fal al sv hi sn ch my kp tx rd wy H.size r_6 2 r_8 q_9) (cwV 2 hts gX6_canBeKept_X6_of rfl rfl rfl (by decide +kernel) ⟨Nat.le_of_ble_eq_true rfl, Nat.le_of_ble_eq_true rfl⟩) (mPreVS [(W_M cI cC cT h0 h1 h2 h3 h4 h5 h6 h7 h8 h9 h10 hlg tk fx xl xp rmn hdn few mst fal al sv hi sn ch my kp tx rd wy)] rfl hP hD hK hN [0] rfl (by decide) (va_recv hK (sP hP 0 rfl) (ci := 6) (q0 := 0) rfl rfl)) rfl rfl hl.1 rfl (lv_room (Nat.le_of_ble_eq_true rfl)) dX6_canBeKept_28 ⟨Nat.zero_le _, Nat.zero_le _⟩) hP hD hS hA [0] rfl rfl rfl rfl (fun H locs hP hD hS => ?_)
    refine lv_icmp_ne (tgt := 38) hx hb dX6_canBeKept_31 (by decide) (fun c_10 => ?_) (fun c_10 => ?_)
    · have hf := ite_f hf c_10
      refine lv_iconst (v := 0) hx hb dX6_canBeKept_38 (by decide) ?_
      cases hf
      exact mZret hx hb hr rfl hlocks hP hD hK hS dX6_canBeKept_39
    · have hf := ite_t hf c_10
      refine lv_iconst (v := 1) hx hb dX6_canBeKept_34 (by decide) ?_
      refine lv_goto (tgt := 39) hx hb dX6_canBeKept_35 (by decide) ?_
      cases hf
      exact mZret hx hb hr rfl hlocks hP hD hK hS dX6_canBeKept_39
abbrev rm_X6_findsChoices : Room := { frames := 3, cells := 0, slots := 0, locals := 68 }
set_option maxHeartbeats 4000000 in
set_option maxRecDepth 100000 in
theorem c_X6_findsChoices (l : Launch) (D : va_G) (cI cC cT : ClassId) (h0 h1 h2 h3 h4 h5 h6 h7 h8 h9 h10 : Nat) (hlg : Int32) (tk : Int32) (fx : Int32) (xl : Int32) (xp : Int32) (rmn : Int32) (hdn : Int32) (few : Int32) (mst : Int32) (fal : Int32) (al : Nat → Int32) (sv : Nat → Int32) (hi : Nat → Int32) (sn : Nat → Int32) (ch : Nat → Int32) (my : Nat → Int32) (kp : Nat → Int32) (tx : Nat → Int32) (rd : Nat → Int32) (wy : Nat → Int32) (sz : Nat) (o_ch : Nat → Int32) (o_my : Nat → Int32) (hf : f_X6_findsChoices fx al ch my = some ((o_ch, o_my))) : Met l yX6_findsChoices wsX6_findsChoices rm_X6_findsChoices (mP D (mTY cI cC cT) [.ref h0] (List.flatten [(W_M cI cC cT h0 h1 h2 h3 h4 h5 h6 h7 h8 h9 h10 hlg tk fx xl xp rmn hdn few mst fal al sv hi sn ch my kp tx rd wy)]) sz) (mQv D (mTY cI cC cT) (va_A (List.flatten [(W_M cI cC cT h0 h1 h2 h3 h4 h5 h6 h7 h8 h9 h10 hlg tk fx xl xp rmn hdn few mst fal al sv hi sn ch my kp tx rd wy)]) sz) (List.flatten [(W_M cI cC cT h0 h1 h2 h3 h4 h5 h6 h7 h8 h9 h10 hlg tk fx xl xp rmn hdn few mst fal al sv hi sn o_ch o_my kp tx rd wy)])) 0 0 (va_A (List.flatten [(W_M cI cC cT h0 h1 h2 h3 h4 h5 h6 h7 h8 h9 h10 hlg tk fx xl xp rmn hdn few mst fal al sv hi sn ch my kp tx rd wy)]) sz) := by
  refine mEnt (cc := cX6_findsChoices) (maxL := 4) (ret := none) (own := RX6) (Qq := fun A => mQv D (mTY cI cC cT) A (List.flatten [(W_M cI cC cT h0 h1 h2 h3 h4 h5 h6 h7 h8 h9 h10 hlg tk fx xl xp rmn hdn few mst fal al sv hi sn o_ch o_my kp tx rd wy)])) (by decide) rfl rfl (Nat.le_of_ble_eq_true rfl) ?_
  intro p e s m below meth c A ls H locs hx hb hr hml hlocks hown hts hN hA hP hK hD hS hl
  have hin_X6 : ∀ w ∈ u_ws RX6 TX6 20, w ∈ wsX6_findsChoices := by decide +kernel
  have fl_7 := hts (.fieldLink RX6 7 "SureMendingsModel" "all" "[I") (by decide +kernel)
  have fl_22 := hts (.fieldLink RX6 22 "SureMendingsModel" "choices" "[I") (by decide +kernel)
  have fl_25 := hts (.fieldLink RX6 25 "SureMendingsModel" "many" "[I") (by decide +kernel)
  have fl_31 := hts (.fieldLink RX6 31 "SureMendingsModel" "fixed" "I") (by decide +kernel)
  have hl : lv_has ls 4 [(0, .ref h0)] := hl
  unfold f_X6_findsChoices at hf
  refine lv_iconst (v := 0) hx hb dX6_findsChoices_0 (by decide) ?_
  refine lv_istore_n (lv' := [(1, .int 0), (0, .ref h0)]) hx hb dX6_findsChoices_1 rfl hl (by decide) rfl (fun ls hl => ?_)
  have LP_3 : ∀ (n_3 : Nat) (v1_1 : Int32) (my_2 : Nat → Int32), iter n_3 (b_X6_findsChoices_2 fx al ch) ((v1_1, my_2)) = some ((o_ch, o_my)) → ∀ (H : Heap) (locs : List Loc), va_P D vwCl (List.flatten [(W_M cI cC cT h0 h1 h2 h3 h4 h5 h6 h7 h8 h9 h10 hlg tk fx xl xp rmn hdn few mst fal al sv hi sn ch my_2 kp tx rd wy)]) H → va_D A (List.flatten [(W_M cI cC cT h0 h1 h2 h3 h4 h5 h6 h7 h8 h9 h10 hlg tk fx xl xp rmn hdn few mst fal al sv hi sn ch my_2 kp tx rd wy)]) → va_S A s.heap H locs → ∀ (ls : Array Slot), lv_has ls 4 [(0, .ref h0), (1, .int v1_1)] → W p l e rm_X6_findsChoices s m ([.ref h0] : List Value).toArray below meth c H locs 0 0 (MQ below (mQv D (mTY cI cC cT) A (List.flatten [(W_M cI cC cT h0 h1 h2 h3 h4 h5 h6 h7 h8 h9 h10 hlg tk fx xl xp rmn hdn few mst fal al sv hi sn o_ch o_my kp tx rd wy)])) ([.ref h0] : List Value).toArray s 0 0 A) (F0 m 2 ls []) := by
    intro n_3
    induction n_3 with
    | zero => intro v1_1 my_2 hf; exact (iter_zero hf).elim
    | succ n_3 ih_3 =>
      intro v1_1 my_2 hf H locs hP hD hS ls hl
      obtain ⟨o_3, hf, ho_3⟩ := iter_succ hf
      dsimp only [b_X6_findsChoices_2] at hf
      refine lv_iload_n hx hb dX6_findsChoices_2 rfl (lv_at hl 1 rfl) ?_
      refine lv_bipush (v := 10) hx hb dX6_findsChoices_3 (by decide) ?_
      refine lv_icmp_ge (tgt := 21) hx hb dX6_findsChoices_5 (by decide) (fun c_4 => ?_) (fun c_4 => ?_)
      · have hf := ite_t hf c_4
        refine lv_iconst (v := 0) hx hb dX6_findsChoices_21 (by decide) ?_
        refine lv_istore_n (lv' := [(1, .int 0), (0, .ref h0)]) hx hb dX6_findsChoices_22 rfl hl (by decide) rfl (fun ls hl => ?_)
        have LP_8 : ∀ (n_8 : Nat) (v1_5 : Int32) (ch_6 : Nat → Int32) (my_7 : Nat → Int32), iter n_8 (b_X6_findsChoices_1 fx al) ((v1_5, ch_6, my_7)) = some o_3 → ∀ (H : Heap) (locs : List Loc), va_P D vwCl (List.flatten [(W_M cI cC cT h0 h1 h2 h3 h4 h5 h6 h7 h8 h9 h10 hlg tk fx xl xp rmn hdn few mst fal al sv hi sn ch_6 my_7 kp tx rd wy)]) H → va_D A (List.flatten [(W_M cI cC cT h0 h1 h2 h3 h4 h5 h6 h7 h8 h9 h10 hlg tk fx xl xp rmn hdn few mst fal al sv hi sn ch_6 my_7 kp tx rd wy)]) → va_S A s.heap H locs → ∀ (ls : Array Slot), lv_has ls 4 [(0, .ref h0), (1, .int v1_5)] → W p l e rm_X6_findsChoices s m ([.ref h0] : List Value).toArray below meth c H locs 0 0 (MQ below (mQv D (mTY cI cC cT) A (List.flatten [(W_M cI cC cT h0 h1 h2 h3 h4 h5 h6 h7 h8 h9 h10 hlg tk fx xl xp rmn hdn few mst fal al sv hi sn o_ch o_my kp tx rd wy)])) ([.ref h0] : List Value).toArray s 0 0 A) (F0 m 23 ls []) := by
          intro n_8
          induction n_8 with
          | zero => intro v1_5 ch_6 my_7 hf; exact (iter_zero hf).elim
          | succ n_8 ih_8 =>
            intro v1_5 ch_6 my_7 hf H locs hP hD hS ls hl
            obtain ⟨o_8, hf, ho_8⟩ := iter_succ hf
            dsimp only [b_X6_findsChoices_1] at hf
            refine lv_iload_n hx hb dX6_findsChoices_23 rfl (lv_at hl 1 rfl) ?_
            refine lv_aload_n hx hb dX6_findsChoices_24 rfl (lv_at hl 0 rfl) ?_
            refine va_get (D := D) (ci := 6) (v := .ref h1) (C := RX6) (T := TX6) (N := 20) hx hb hts hin_X6 hown hK hP 0 rfl rfl 0 (by decide) fl_7 (fun _ h9 => h9) rfl dX6_findsChoices_25 ?_
            refine lv_iconst (v := 0) hx hb dX6_findsChoices_28 (by decide) ?_
            refine va_iald hx hb hK hP 1 0 rfl rfl (i := 0) (by unfold vp_in; decide) dX6_findsChoices_29 ?_
            refine lv_tope (y := al 0) rfl ?_
            refine lv_icmp_ge (tgt := 121) hx hb dX6_findsChoices_30 (by decide) (fun c_9 => ?_) (fun c_9 => ?_)
            · have hf := ite_t hf c_9
              cases hf
              have hf := ho_8.2 _ rfl
              cases hf
              have hf := ho_3.2 _ rfl
              cases hf
              exact mVret hx hb hr hlocks hP hD hK hS dX6_findsChoices_121
            · have hf := ite_f hf c_9
              refine lv_aload_n hx hb dX6_findsChoices_33 rfl (lv_at hl 0 rfl) ?_
              refine lv_iload_n hx hb dX6_findsChoices_34 rfl (lv_at hl 1 rfl) ?_
              refine lv_iconst (v := 0) hx hb dX6_findsChoices_35 (by decide) ?_
              obtain ⟨r_10, q_11, hf⟩ := bnd hf
              refine mGoiS (segs := [(W_M cI cC cT h0 h1 h2 h3 h4 h5 h6 h7 h8 h9 h10 hlg tk fx xl xp rmn hdn few mst fal al sv hi sn ch_6 my_7 kp tx rd wy)]) (wcs := [(W_M cI cC cT h0 h1 h2 h3 h4 h5 h6 h7 h8 h9 h10 hlg tk fx xl xp rmn hdn few mst fal al sv hi sn ch_6 my_7 kp tx rd wy)]) (w1s := [(W_M cI cC cT h0 h1 h2 h3 h4 h5 h6 h7 h8 h9 h10 hlg tk fx xl xp rmn hdn few mst fal al sv hi sn ch_6 my_7 kp tx rd wy)]) (w2s := [(W_M cI cC cT h0 h1 h2 h3 h4 h5 h6 h7 h8 h9 h10 hlg tk fx xl xp rmn hdn few mst fal al sv hi sn ch_6 my_7 kp tx rd wy)]) rfl rfl (va_runV (As := [.int v1_5, .int 0]) (rest := []) ⟨hx, hb, hml, hown, hts⟩ (c_X6_of l D cI cC cT h0 h1 h2 h3 h4 h5 h6 h7 h8 h9 h10 hlg tk fx xl xp rmn hdn few mst fal al sv hi sn ch_6 my_7 kp tx rd wy H.size v1_5 0 r_10 q_11) (cwV 2 hts gX6_findsChoices_X6_of rfl rfl rfl (by decide +kernel) ⟨Nat.le_of_ble_eq_true rfl, Nat.le_of_ble_eq_true rfl⟩) (mPreVS [(W_M cI cC cT h0 h1 h2 h3 h4 h5 h6 h7 h8 h9 h10 hlg tk fx xl xp rmn hdn few mst fal al sv hi sn ch_6 my_7 kp tx rd wy)] rfl hP hD hK hN [0] rfl (by decide) (va_recv hK (sP hP 0 rfl) (ci := 6) (q0 := 0) rfl rfl)) rfl rfl hl.1 rfl (lv_room (Nat.le_of_ble_eq_true rfl)) dX6_findsChoices_36 ⟨Nat.zero_le _, Nat.zero_le _⟩) hP hD hS hA [0] rfl rfl rfl rfl (fun H locs hP hD hS => ?_)
              refine lv_istore_n (lv' := [(2, .int r_10), (0, .ref h0), (1, .int v1_5)]) hx hb dX6_findsChoices_39 rfl hl (by decide) rfl (fun ls hl => ?_)
              refine lv_aload_n hx hb dX6_findsChoices_40 rfl (lv_at hl 1 rfl) ?_
              refine va_get (D := D) (ci := 6) (v := .int fx) (C := RX6) (T := TX6) (N := 20) hx hb hts hin_X6 hown hK hP 0 rfl rfl 9 (by decide) fl_31 (fun _ h9 => h9) rfl dX6_findsChoices_41 ?_
              refine lv_bipush (v := -5) hx hb dX6_findsChoices_44 (by decide) ?_
              obtain ⟨x_12, q_14, hf⟩ := bnd hf
              have K_13 : ∀ (H : Heap) (locs : List Loc), va_P D vwCl (List.flatten [(W_M cI cC cT h0 h1 h2 h3 h4 h5 h6 h7 h8 h9 h10 hlg tk fx xl xp rmn hdn few mst fal al sv hi sn ch_6 my_7 kp tx rd wy)]) H → va_D A (List.flatten [(W_M cI cC cT h0 h1 h2 h3 h4 h5 h6 h7 h8 h9 h10 hlg tk fx xl xp rmn hdn few mst fal al sv hi sn ch_6 my_7 kp tx rd wy)]) → va_S A s.heap H locs → ∀ (ls : Array Slot), lv_has ls 4 [(0, .ref h0), (1, .int v1_5), (2, .int r_10)] → W p l e rm_X6_findsChoices s m ([.ref h0] : List Value).toArray below meth c H locs 0 0 (MQ below (mQv D (mTY cI cC cT) A (List.flatten [(W_M cI cC cT h0 h1 h2 h3 h4 h5 h6 h7 h8 h9 h10 hlg tk fx xl xp rmn hdn few mst fal al sv hi sn o_ch o_my kp tx rd wy)])) ([.ref h0] : List Value).toArray s 0 0 A) (F0 m 83 ls [.int x_12]) := by
                intro H locs hP hD hS ls hl
                refine lv_istore_n (lv' := [(3, .int x_12), (0, .ref h0), (1, .int v1_5), (2, .int r_10)]) hx hb dX6_findsChoices_83 rfl hl (by decide) rfl (fun ls hl => ?_)
                refine lv_iload_n hx hb dX6_findsChoices_84 rfl (lv_at hl 0 rfl) ?_
                obtain ⟨⟨ch_24, my_25⟩, q_27, hf⟩ := bnd hf
                have K_26 : ∀ (H : Heap) (locs : List Loc), va_P D vwCl (List.flatten [(W_M cI cC cT h0 h1 h2 h3 h4 h5 h6 h7 h8 h9 h10 hlg tk fx xl xp rmn hdn few mst fal al sv hi sn ch_24 my_25 kp tx rd wy)]) H → va_D A (List.flatten [(W_M cI cC cT h0 h1 h2 h3 h4 h5 h6 h7 h8 h9 h10 hlg tk fx xl xp rmn hdn few mst fal al sv hi sn ch_24 my_25 kp tx rd wy)]) → va_S A s.heap H locs → ∀ (ls : Array Slot), lv_has ls 4 [(0, .ref h0), (1, .int v1_5)] → W p l e rm_X6_findsChoices s m ([.ref h0] : List Value).toArray below meth c H locs 0 0 (MQ below (mQv D (mTY cI cC cT) A (List.flatten [(W_M cI cC cT h0 h1 h2 h3 h4 h5 h6 h7 h8 h9 h10 hlg tk fx xl xp rmn hdn few mst fal al sv hi sn o_ch o_my kp tx rd wy)])) ([.ref h0] : List Value).toArray s 0 0 A) (F0 m 115 ls []) := by
                  intro H locs hP hD hS ls hl
                  refine lv_iinc (v := v1_5 + 1) (lv' := [(1, .int (v1_5 + 1)), (0, .ref h0)]) hx hb dX6_findsChoices_115 hl (k := 1) rfl rfl (by decide) rfl (fun ls hl => ?_)
                  refine lv_goto (tgt := 23) hx hb dX6_findsChoices_118 (by decide) ?_
                  cases hf
                  have hf := ho_8.1 _ rfl
                  exact ih_8 _ _ _ hf _ _ hP hD hS _ (lv_sub hl [1, 0] rfl)
                have hf := q_27
                refine lv_if_eq (tgt := 115) hx hb dX6_findsChoices_85 (by decide) (fun c_28 => ?_) (fun c_28 => ?_)
                · have hf := ite_t hf c_28
                  cases hf
                  exact K_26 _ _ hP hD hS _ (lv_sub hl [1, 2] rfl)
                · have hf := ite_f hf c_28
                  refine lv_aload_n hx hb dX6_findsChoices_88 rfl (lv_at hl 1 rfl) ?_
                  refine va_get (D := D) (ci := 6) (v := .ref h5) (C := RX6) (T := TX6) (N := 20) hx hb hts hin_X6 hown hK hP 0 rfl rfl 6 (by decide) fl_22 (fun _ h9 => h9) rfl dX6_findsChoices_89 ?_
                  refine lv_bipush (v := 20) hx hb dX6_findsChoices_92 (by decide) ?_
                  refine lv_iload_n hx hb dX6_findsChoices_94 rfl (lv_at hl 3 rfl) ?_
                  refine lv_imul hx hb dX6_findsChoices_95 ?_
                  refine lv_aload_n hx hb dX6_findsChoices_96 rfl (lv_at hl 1 rfl) ?_
                  refine va_get (D := D) (ci := 6) (v := .ref h6) (C := RX6) (T := TX6) (N := 20) hx hb hts hin_X6 hown hK hP 0 rfl rfl 7 (by decide) fl_25 (fun _ h9 => h9) rfl dX6_findsChoices_97 ?_
                  refine lv_iload_n hx hb dX6_findsChoices_100 rfl (lv_at hl 3 rfl) ?_
                  obtain ⟨h_29, hf⟩ := grd hf
                  refine va_iald hx hb hK hP 6 0 rfl rfl h_29 dX6_findsChoices_101 ?_
                  refine lv_iadd hx hb dX6_findsChoices_102 ?_
                  refine lv_iload_n hx hb dX6_findsChoices_103 rfl (lv_at hl 2 rfl) ?_
                  obtain ⟨h_30, hf⟩ := grd hf
                  refine va_iast hx hb hK hP hD hS 5 0 rfl rfl h_30 dX6_findsChoices_104 (fun H locs hP hD hS => ?_)
                  have hP : va_P D vwCl (List.flatten [(W_M cI cC cT h0 h1 h2 h3 h4 h5 h6 h7 h8 h9 h10 hlg tk fx xl xp rmn hdn few mst fal al sv hi sn (upd ch_6 ((20 * r_10) + (my_7 r_10.toNatClampNeg)).toNatClampNeg v1_5) my_7 kp tx rd wy)]) H := hP
                  have hD : va_D A (List.flatten [(W_M cI cC cT h0 h1 h2 h3 h4 h5 h6 h7 h8 h9 h10 hlg tk fx xl xp rmn hdn few mst fal al sv hi sn (upd ch_6 ((20 * r_10) + (my_7 r_10.toNatClampNeg)).toNatClampNeg v1_5) my_7 kp tx rd wy)]) := hD
                  refine lv_aload_n hx hb dX6_findsChoices_105 rfl (lv_at hl 1 rfl) ?_
                  refine va_get (D := D) (ci := 6) (v := .ref h6) (C := RX6) (T := TX6) (N := 20) hx hb hts hin_X6 hown hK hP 0 rfl rfl 7 (by decide) fl_25 (fun _ h9 => h9) rfl dX6_findsChoices_106 ?_
                  refine lv_iload_n hx hb dX6_findsChoices_109 rfl (lv_at hl 3 rfl) ?_
                  refine lv_dup2_11 hx hb dX6_findsChoices_110 rfl rfl ?_
                  obtain ⟨h_31, hf⟩ := grd hf
                  refine va_iald hx hb hK hP 6 0 rfl rfl h_31 dX6_findsChoices_111 ?_
                  refine lv_iconst (v := 1) hx hb dX6_findsChoices_112 (by decide) ?_
                  refine lv_iadd hx hb dX6_findsChoices_113 ?_
                  obtain ⟨h_32, hf⟩ := grd hf
                  refine va_iast hx hb hK hP hD hS 6 0 rfl rfl h_32 dX6_findsChoices_114 (fun H locs hP hD hS => ?_)
                  have hP : va_P D vwCl (List.flatten [(W_M cI cC cT h0 h1 h2 h3 h4 h5 h6 h7 h8 h9 h10 hlg tk fx xl xp rmn hdn few mst fal al sv hi sn (upd ch_6 ((20 * r_10) + (my_7 r_10.toNatClampNeg)).toNatClampNeg v1_5) (upd my_7 r_10.toNatClampNeg ((my_7 r_10.toNatClampNeg) + 1)) kp tx rd wy)]) H := hP
                  have hD : va_D A (List.flatten [(W_M cI cC cT h0 h1 h2 h3 h4 h5 h6 h7 h8 h9 h10 hlg tk fx xl xp rmn hdn few mst fal al sv hi sn (upd ch_6 ((20 * r_10) + (my_7 r_10.toNatClampNeg)).toNatClampNeg v1_5) (upd my_7 r_10.toNatClampNeg ((my_7 r_10.toNatClampNeg) + 1)) kp tx rd wy)]) := hD
                  cases hf
                  exact K_26 _ _ hP hD hS _ (lv_sub hl [1, 2] rfl)
              have hf := q_14
              refine lv_icmp_eq (tgt := 78) hx hb dX6_findsChoices_46 (by decide) (fun c_15 => ?_) (fun c_15 => ?_)
              · have hf := ite_t hf c_15
                refine lv_aload_n hx hb dX6_findsChoices_78 rfl (lv_at hl 1 rfl) ?_
                refine lv_iload_n hx hb dX6_findsChoices_79 rfl (lv_at hl 2 rfl) ?_
                obtain ⟨r_16, q_17, hf⟩ := bnd hf
                refine mGoiS (segs := [(W_M cI cC cT h0 h1 h2 h3 h4 h5 h6 h7 h8 h9 h10 hlg tk fx xl xp rmn hdn few mst fal al sv hi sn ch_6 my_7 kp tx rd wy)]) (wcs := [(W_M cI cC cT h0 h1 h2 h3 h4 h5 h6 h7 h8 h9 h10 hlg tk fx xl xp rmn hdn few mst fal al sv hi sn ch_6 my_7 kp tx rd wy)]) (w1s := [(W_M cI cC cT h0 h1 h2 h3 h4 h5 h6 h7 h8 h9 h10 hlg tk fx xl xp rmn hdn few mst fal al sv hi sn ch_6 my_7 kp tx rd wy)]) (w2s := [(W_M cI cC cT h0 h1 h2 h3 h4 h5 h6 h7 h8 h9 h10 hlg tk fx xl xp rmn hdn few mst fal al sv hi sn ch_6 my_7 kp tx rd wy)]) rfl rfl (va_runV (As := [.int v1_5]) (rest := []) ⟨hx, hb, hml, hown, hts⟩ (c_X6_canBeKept l D cI cC cT h0 h1 h2 h3 h4 h5 h6 h7 h8 h9 h10 hlg tk fx xl xp rmn hdn few mst fal al sv hi sn ch_6 my_7 kp tx rd wy H.size v1_5 r_16 q_17) (cwV 1 hts gX6_findsChoices_X6_canBeKept rfl rfl rfl (by decide +kernel) ⟨Nat.le_of_ble_eq_true rfl, Nat.le_of_ble_eq_true rfl⟩) (mPreVS [(W_M cI cC cT h0 h1 h2 h3 h4 h5 h6 h7 h8 h9 h10 hlg tk fx xl xp rmn hdn few mst fal al sv hi sn ch_6 my_7 kp tx rd wy)] rfl hP hD hK hN [0] rfl (by decide) (va_recv hK (sP hP 0 rfl) (ci := 6) (q0 := 0) rfl rfl)) rfl rfl hl.1 rfl (lv_room (Nat.le_of_ble_eq_true rfl)) dX6_findsChoices_80 ⟨Nat.zero_le _, Nat.zero_le _⟩) hP hD hS hA [0] rfl rfl rfl rfl (fun H locs hP hD hS => ?_)
                cases hf
                exact K_13 _ _ hP hD hS _ (lv_sub hl [1, 2, 0] rfl)
              · have hf := ite_f hf c_15
                refine lv_aload_n hx hb dX6_findsChoices_49 rfl (lv_at hl 1 rfl) ?_
                refine lv_aload_n hx hb dX6_findsChoices_50 rfl (lv_at hl 1 rfl) ?_
                refine va_get (D := D) (ci := 6) (v := .int fx) (C := RX6) (T := TX6) (N := 20) hx hb hts hin_X6 hown hK hP 0 rfl rfl 9 (by decide) fl_31 (fun _ h9 => h9) rfl dX6_findsChoices_51 ?_
                refine lv_iconst (v := 0) hx hb dX6_findsChoices_54 (by decide) ?_
                obtain ⟨r_18, q_19, hf⟩ := bnd hf
                refine mGoiS (segs := [(W_M cI cC cT h0 h1 h2 h3 h4 h5 h6 h7 h8 h9 h10 hlg tk fx xl xp rmn hdn few mst fal al sv hi sn ch_6 my_7 kp tx rd wy)]) (wcs := [(W_M cI cC cT h0 h1 h2 h3 h4 h5 h6 h7 h8 h9 h10 hlg tk fx xl xp rmn hdn few mst fal al sv hi sn ch_6 my_7 kp tx rd wy)]) (w1s := [(W_M cI cC cT h0 h1 h2 h3 h4 h5 h6 h7 h8 h9 h10 hlg tk fx xl xp rmn hdn few mst fal al sv hi sn ch_6 my_7 kp tx rd wy)]) (w2s := [(W_M cI cC cT h0 h1 h2 h3 h4 h5 h6 h7 h8 h9 h10 hlg tk fx xl xp rmn hdn few mst fal al sv hi sn ch_6 my_7 kp tx rd wy)]) rfl rfl (va_runV (As := [.int fx, .int 0]) (rest := []) ⟨hx, hb, hml, hown, hts⟩ (c_X6_of l D cI cC cT h0 h1 h2 h3 h4 h5 h6 h7 h8 h9 h10 hlg tk fx xl xp rmn hdn few mst fal al sv hi sn ch_6 my_7 kp tx rd wy H.size fx 0 r_18 q_19) (cwV 2 hts gX6_findsChoices_X6_of rfl rfl rfl (by decide +kernel) ⟨Nat.le_of_ble_eq_true rfl, Nat.le_of_ble_eq_true rfl⟩) (mPreVS [(W_M cI cC cT h0 h1 h2 h3 h4 h5 h6 h7 h8 h9 h10 hlg tk fx xl xp rmn hdn few mst fal al sv hi sn ch_6 my_7 kp tx rd wy)] rfl hP hD hK hN [0] rfl (by decide) (va_recv hK (sP hP 0 rfl) (ci := 6) (q0 := 0) rfl rfl)) rfl rfl hl.1 rfl (lv_room (Nat.le_of_ble_eq_true rfl)) dX6_findsChoices_55 ⟨Nat.zero_le _, Nat.zero_le _⟩) hP hD hS hA [0] rfl rfl rfl rfl (fun H locs hP hD hS => ?_)
                refine lv_iload_n hx hb dX6_findsChoices_58 rfl (lv_at hl 0 rfl) ?_
                refine lv_icmp_ne (tgt := 78) hx hb dX6_findsChoices_59 (by decide) (fun c_20 => ?_) (fun c_20 => ?_)
                · have hf := ite_f hf c_20
                  refine lv_aload_n hx hb dX6_findsChoices_78 rfl (lv_at hl 1 rfl) ?_
                  refine lv_iload_n hx hb dX6_findsChoices_79 rfl (lv_at hl 2 rfl) ?_
                  obtain ⟨r_21, q_22, hf⟩ := bnd hf
                  refine mGoiS (segs := [(W_M cI cC cT h0 h1 h2 h3 h4 h5 h6 h7 h8 h9 h10 hlg tk fx xl xp rmn hdn few mst fal al sv hi sn ch_6 my_7 kp tx rd wy)]) (wcs := [(W_M cI cC cT h0 h1 h2 h3 h4 h5 h6 h7 h8 h9 h10 hlg tk fx xl xp rmn hdn few mst fal al sv hi sn ch_6 my_7 kp tx rd wy)]) (w1s := [(W_M cI cC cT h0 h1 h2 h3 h4 h5 h6 h7 h8 h9 h10 hlg tk fx xl xp rmn hdn few mst fal al sv hi sn ch_6 my_7 kp tx rd wy)]) (w2s := [(W_M cI cC cT h0 h1 h2 h3 h4 h5 h6 h7 h8 h9 h10 hlg tk fx xl xp rmn hdn few mst fal al sv hi sn ch_6 my_7 kp tx rd wy)]) rfl rfl (va_runV (As := [.int v1_5]) (rest := []) ⟨hx, hb, hml, hown, hts⟩ (c_X6_canBeKept l D cI cC cT h0 h1 h2 h3 h4 h5 h6 h7 h8 h9 h10 hlg tk fx xl xp rmn hdn few mst fal al sv hi sn ch_6 my_7 kp tx rd wy H.size v1_5 r_21 q_22) (cwV 1 hts gX6_findsChoices_X6_canBeKept rfl rfl rfl (by decide +kernel) ⟨Nat.le_of_ble_eq_true rfl, Nat.le_of_ble_eq_true rfl⟩) (mPreVS [(W_M cI cC cT h0 h1 h2 h3 h4 h5 h6 h7 h8 h9 h10 hlg tk fx xl xp rmn hdn few mst fal al sv hi sn ch_6 my_7 kp tx rd wy)] rfl hP hD hK hN [0] rfl (by decide) (va_recv hK (sP hP 0 rfl) (ci := 6) (q0 := 0) rfl rfl)) rfl rfl hl.1 rfl (lv_room (Nat.le_of_ble_eq_true rfl)) dX6_findsChoices_80 ⟨Nat.zero_le _, Nat.zero_le _⟩) hP hD hS hA [0] rfl rfl rfl rfl (fun H locs hP hD hS => ?_)
                  cases hf
                  exact K_13 _ _ hP hD hS _ (lv_sub hl [1, 2, 0] rfl)
                · have hf := ite_t hf c_20
                  refine lv_iload_n hx hb dX6_findsChoices_62 rfl (lv_at hl 2 rfl) ?_
                  refine lv_aload_n hx hb dX6_findsChoices_63 rfl (lv_at hl 1 rfl) ?_
                  refine va_get (D := D) (ci := 6) (v := .int fx) (C := RX6) (T := TX6) (N := 20) hx hb hts hin_X6 hown hK hP 0 rfl rfl 9 (by decide) fl_31 (fun _ h9 => h9) rfl dX6_findsChoices_64 ?_
                  refine lv_icmp_ne (tgt := 74) hx hb dX6_findsChoices_67 (by decide) (fun c_23 => ?_) (fun c_23 => ?_)
                  · have hf := ite_f hf c_23
                    refine lv_iconst (v := 0) hx hb dX6_findsChoices_74 (by decide) ?_
                    refine lv_goto (tgt := 83) hx hb dX6_findsChoices_75 (by decide) ?_
                    cases hf
                    exact K_13 _ _ hP hD hS _ (lv_sub hl [1, 2, 0] rfl)
                  · have hf := ite_t hf c_23
                    refine lv_iconst (v := 1) hx hb dX6_findsChoices_70 (by decide) ?_
                    refine lv_goto (tgt := 83) hx hb dX6_findsChoices_71 (by decide) ?_
                    cases hf
                    exact K_13 _ _ hP hD hS _ (lv_sub hl [1, 2, 0] rfl)
        exact LP_8 _ _ _ _ hf _ _ hP hD hS _ (lv_sub hl [1, 0] rfl)
      · have hf := ite_f hf c_4
        refine lv_aload_n hx hb dX6_findsChoices_8 rfl (lv_at hl 0 rfl) ?_
        refine va_get (D := D) (ci := 6) (v := .ref h6) (C := RX6) (T := TX6) (N := 20) hx hb hts hin_X6 hown hK hP 0 rfl rfl 7 (by decide) fl_25 (fun _ h9 => h9) rfl dX6_findsChoices_9 ?_
        refine lv_iload_n hx hb dX6_findsChoices_12 rfl (lv_at hl 1 rfl) ?_
        refine lv_iconst (v := 0) hx hb dX6_findsChoices_13 (by decide) ?_
        obtain ⟨h_33, hf⟩ := grd hf
        refine va_iast hx hb hK hP hD hS 6 0 rfl rfl h_33 dX6_findsChoices_14 (fun H locs hP hD hS => ?_)
        have hP : va_P D vwCl (List.flatten [(W_M cI cC cT h0 h1 h2 h3 h4 h5 h6 h7 h8 h9 h10 hlg tk fx xl xp rmn hdn few mst fal al sv hi sn ch (upd my_2 v1_1.toNatClampNeg 0) kp tx rd wy)]) H := hP
        have hD : va_D A (List.flatten [(W_M cI cC cT h0 h1 h2 h3 h4 h5 h6 h7 h8 h9 h10 hlg tk fx xl xp rmn hdn few mst fal al sv hi sn ch (upd my_2 v1_1.toNatClampNeg 0) kp tx rd wy)]) := hD
        refine lv_iinc (v := v1_1 + 1) (lv' := [(1, .int (v1_1 + 1)), (0, .ref h0)]) hx hb dX6_findsChoices_15 hl (k := 1) rfl rfl (by decide) rfl (fun ls hl => ?_)
        refine lv_goto (tgt := 2) hx hb dX6_findsChoices_18 (by decide) ?_
        cases hf
        have hf := ho_3.1 _ rfl
        exact ih_3 _ _ hf _ _ hP hD hS _ (lv_sub hl [1, 0] rfl)
  exact LP_3 _ _ _ hf _ _ hP hD hS _ (lv_sub hl [1, 0] rfl)
abbrev rm_X6_begins : Room := { frames := 4, cells := 0, slots := 0, locals := 91 }
set_option maxHeartbeats 4000000 in
set_option maxRecDepth 100000 in
theorem c_X6_begins (l : Launch) (D : va_G) (cI cC cT : ClassId) (h0 h1 h2 h3 h4 h5 h6 h7 h8 h9 h10 : Nat) (hlg : Int32) (tk : Int32) (fx : Int32) (xl : Int32) (xp : Int32) (rmn : Int32) (hdn : Int32) (few : Int32) (mst : Int32) (fal : Int32) (al : Nat → Int32) (sv : Nat → Int32) (hi : Nat → Int32) (sn : Nat → Int32) (ch : Nat → Int32) (my : Nat → Int32) (kp : Nat → Int32) (tx : Nat → Int32) (rd : Nat → Int32) (wy : Nat → Int32) (sz : Nat) (o_hdn : Int32) (o_few : Int32) (o_mst : Int32) (o_fal : Int32) (o_ch : Nat → Int32) (o_my : Nat → Int32) (hf : f_X6_begins fx al ch my = some ((o_hdn, o_few, o_mst, o_fal, o_ch, o_my))) : Met l yX6_begins wsX6_begins rm_X6_begins (mP D (mTY cI cC cT) [.ref h0] (List.flatten [(W_M cI cC cT h0 h1 h2 h3 h4 h5 h6 h7 h8 h9 h10 hlg tk fx xl xp rmn hdn few mst fal al sv hi sn ch my kp tx rd wy)]) sz) (mQv D (mTY cI cC cT) (va_A (List.flatten [(W_M cI cC cT h0 h1 h2 h3 h4 h5 h6 h7 h8 h9 h10 hlg tk fx xl xp rmn hdn few mst fal al sv hi sn ch my kp tx rd wy)]) sz) (List.flatten [(W_M cI cC cT h0 h1 h2 h3 h4 h5 h6 h7 h8 h9 h10 hlg tk fx xl xp rmn o_hdn o_few o_mst o_fal al sv hi sn o_ch o_my kp tx rd wy)])) 0 0 (va_A (List.flatten [(W_M cI cC cT h0 h1 h2 h3 h4 h5 h6 h7 h8 h9 h10 hlg tk fx xl xp rmn hdn few mst fal al sv hi sn ch my kp tx rd wy)]) sz) := by
  refine mEnt (cc := cX6_begins) (maxL := 1) (ret := none) (own := RX6) (Qq := fun A => mQv D (mTY cI cC cT) A (List.flatten [(W_M cI cC cT h0 h1 h2 h3 h4 h5 h6 h7 h8 h9 h10 hlg tk fx xl xp rmn o_hdn o_few o_mst o_fal al sv hi sn o_ch o_my kp tx rd wy)])) (by decide) rfl rfl (Nat.le_of_ble_eq_true rfl) ?_
  intro p e s m below meth c A ls H locs hx hb hr hml hlocks hown hts hN hA hP hK hD hS hl
  have hin_X6 : ∀ w ∈ u_ws RX6 TX6 20, w ∈ wsX6_begins := by decide +kernel
  have fl_152 := hts (.fieldLink RX6 152 "SureMendingsModel" "holding" "I") (by decide +kernel)
  have fl_155 := hts (.fieldLink RX6 155 "SureMendingsModel" "fewest" "I") (by decide +kernel)
  have fl_158 := hts (.fieldLink RX6 158 "SureMendingsModel" "most" "I") (by decide +kernel)
  have fl_161 := hts (.fieldLink RX6 161 "SureMendingsModel" "failing" "I") (by decide +kernel)
  have hl : lv_has ls 1 [(0, .ref h0)] := hl
  unfold f_X6_begins at hf
  refine lv_aload_n hx hb dX6_begins_0 rfl (lv_at hl 0 rfl) ?_
  obtain ⟨⟨ch_1, my_2⟩, q_3, hf⟩ := bnd hf
  refine mGovS (segs := [(W_M cI cC cT h0 h1 h2 h3 h4 h5 h6 h7 h8 h9 h10 hlg tk fx xl xp rmn hdn few mst fal al sv hi sn ch my kp tx rd wy)]) (wcs := [(W_M cI cC cT h0 h1 h2 h3 h4 h5 h6 h7 h8 h9 h10 hlg tk fx xl xp rmn hdn few mst fal al sv hi sn ch my kp tx rd wy)]) (w1s := [(W_M cI cC cT h0 h1 h2 h3 h4 h5 h6 h7 h8 h9 h10 hlg tk fx xl xp rmn hdn few mst fal al sv hi sn ch_1 my_2 kp tx rd wy)]) (w2s := [(W_M cI cC cT h0 h1 h2 h3 h4 h5 h6 h7 h8 h9 h10 hlg tk fx xl xp rmn hdn few mst fal al sv hi sn ch_1 my_2 kp tx rd wy)]) rfl rfl (va_runV (As := []) (rest := []) ⟨hx, hb, hml, hown, hts⟩ (c_X6_findsChoices l D cI cC cT h0 h1 h2 h3 h4 h5 h6 h7 h8 h9 h10 hlg tk fx xl xp rmn hdn few mst fal al sv hi sn ch my kp tx rd wy H.size ch_1 my_2 q_3) (cwV 0 hts gX6_begins_X6_findsChoices rfl rfl rfl (by decide +kernel) ⟨Nat.le_of_ble_eq_true rfl, Nat.le_of_ble_eq_true rfl⟩) (mPreVS [(W_M cI cC cT h0 h1 h2 h3 h4 h5 h6 h7 h8 h9 h10 hlg tk fx xl xp rmn hdn few mst fal al sv hi sn ch my kp tx rd wy)] rfl hP hD hK hN [0] rfl (by decide) (va_recv hK (sP hP 0 rfl) (ci := 6) (q0 := 0) rfl rfl)) rfl rfl hl.1 rfl (lv_room (Nat.le_of_ble_eq_true rfl)) dX6_begins_1 ⟨Nat.zero_le _, Nat.zero_le _⟩) hP hD hS hA [0] rfl rfl rfl rfl (fun H locs hP hD hS => ?_)
  refine lv_aload_n hx hb dX6_begins_4 rfl (lv_at hl 0 rfl) ?_
  refine lv_iconst (v := 0) hx hb dX6_begins_5 (by decide) ?_
  refine va_put (D := D) (ci := 6) (v := .int 0) (ty := .int) (C := RX6) (T := TX6) (N := 20) hx hb hts hin_X6 tyX6 tyX6_ok nmX6 hown hK hP hD hS 0 rfl rfl 15 (by decide) fl_152 (fun _ h9 => h9) rfl (by decide +kernel) rfl rfl (Nat.le_of_ble_eq_true rfl) dX6_begins_6 (fun H locs hP hD hS => ?_)
  have hP : va_P D vwCl (List.flatten [(W_M cI cC cT h0 h1 h2 h3 h4 h5 h6 h7 h8 h9 h10 hlg tk fx xl xp rmn 0 few mst fal al sv hi sn ch_1 my_2 kp tx rd wy)]) H := hP
  have hD : va_D A (List.flatten [(W_M cI cC cT h0 h1 h2 h3 h4 h5 h6 h7 h8 h9 h10 hlg tk fx xl xp rmn 0 few mst fal al sv hi sn ch_1 my_2 kp tx rd wy)]) := hD
  refine lv_aload_n hx hb dX6_begins_9 rfl (lv_at hl 0 rfl) ?_
  refine lv_bipush (v := -5) hx hb dX6_begins_10 (by decide) ?_
  refine va_put (D := D) (ci := 6) (v := .int (-5)) (ty := .int) (C := RX6) (T := TX6) (N := 20) hx hb hts hin_X6 tyX6 tyX6_ok nmX6 hown hK hP hD hS 0 rfl rfl 16 (by decide) fl_155 (fun _ h9 => h9) rfl (by decide +kernel) rfl rfl (Nat.le_of_ble_eq_true rfl) dX6_begins_12 (fun H locs hP hD hS => ?_)
  have hP : va_P D vwCl (List.flatten [(W_M cI cC cT h0 h1 h2 h3 h4 h5 h6 h7 h8 h9 h10 hlg tk fx xl xp rmn 0 (-5) mst fal al sv hi sn ch_1 my_2 kp tx rd wy)]) H := hP
  have hD : va_D A (List.flatten [(W_M cI cC cT h0 h1 h2 h3 h4 h5 h6 h7 h8 h9 h10 hlg tk fx xl xp rmn 0 (-5) mst fal al sv hi sn ch_1 my_2 kp tx rd wy)]) := hD
  refine lv_aload_n hx hb dX6_begins_15 rfl (lv_at hl 0 rfl) ?_
  refine lv_bipush (v := -5) hx hb dX6_begins_16 (by decide) ?_
  refine va_put (D := D) (ci := 6) (v := .int (-5)) (ty := .int) (C := RX6) (T := TX6) (N := 20) hx hb hts hin_X6 tyX6 tyX6_ok nmX6 hown hK hP hD hS 0 rfl rfl 17 (by decide) fl_158 (fun _ h9 => h9) rfl (by decide +kernel) rfl rfl (Nat.le_of_ble_eq_true rfl) dX6_begins_18 (fun H locs hP hD hS => ?_)
  have hP : va_P D vwCl (List.flatten [(W_M cI cC cT h0 h1 h2 h3 h4 h5 h6 h7 h8 h9 h10 hlg tk fx xl xp rmn 0 (-5) (-5) fal al sv hi sn ch_1 my_2 kp tx rd wy)]) H := hP
  have hD : va_D A (List.flatten [(W_M cI cC cT h0 h1 h2 h3 h4 h5 h6 h7 h8 h9 h10 hlg tk fx xl xp rmn 0 (-5) (-5) fal al sv hi sn ch_1 my_2 kp tx rd wy)]) := hD
  refine lv_aload_n hx hb dX6_begins_21 rfl (lv_at hl 0 rfl) ?_
  refine lv_bipush (v := -5) hx hb dX6_begins_22 (by decide) ?_
  refine va_put (D := D) (ci := 6) (v := .int (-5)) (ty := .int) (C := RX6) (T := TX6) (N := 20) hx hb hts hin_X6 tyX6 tyX6_ok nmX6 hown hK hP hD hS 0 rfl rfl 18 (by decide) fl_161 (fun _ h9 => h9) rfl (by decide +kernel) rfl rfl (Nat.le_of_ble_eq_true rfl) dX6_begins_24 (fun H locs hP hD hS => ?_)
  have hP : va_P D vwCl (List.flatten [(W_M cI cC cT h0 h1 h2 h3 h4 h5 h6 h7 h8 h9 h10 hlg tk fx xl xp rmn 0 (-5) (-5) (-5) al sv hi sn ch_1 my_2 kp tx rd wy)]) H := hP
  have hD : va_D A (List.flatten [(W_M cI cC cT h0 h1 h2 h3 h4 h5 h6 h7 h8 h9 h10 hlg tk fx xl xp rmn 0 (-5) (-5) (-5) al sv hi sn ch_1 my_2 kp tx rd wy)]) := hD
  cases hf
  exact mVret hx hb hr hlocks hP hD hK hS dX6_begins_27
abbrev rm_X6_mendings : Room := { frames := 0, cells := 0, slots := 0, locals := 0 }
set_option maxHeartbeats 4000000 in
set_option maxRecDepth 100000 in
theorem c_X6_mendings (l : Launch) (D : va_G) (cI cC cT : ClassId) (h0 h1 h2 h3 h4 h5 h6 h7 h8 h9 h10 : Nat) (hlg : Int32) (tk : Int32) (fx : Int32) (xl : Int32) (xp : Int32) (rmn : Int32) (hdn : Int32) (few : Int32) (mst : Int32) (fal : Int32) (al : Nat → Int32) (sv : Nat → Int32) (hi : Nat → Int32) (sn : Nat → Int32) (ch : Nat → Int32) (my : Nat → Int32) (kp : Nat → Int32) (tx : Nat → Int32) (rd : Nat → Int32) (wy : Nat → Int32) (sz : Nat) (out : Int32) (hf : f_X6_mendings my = some out) : Met l yX6_mendings wsX6_mendings rm_X6_mendings (mP D (mTY cI cC cT) [.ref h0] (List.flatten [(W_M cI cC cT h0 h1 h2 h3 h4 h5 h6 h7 h8 h9 h10 hlg tk fx xl xp rmn hdn few mst fal al sv hi sn ch my kp tx rd wy)]) sz) (mQi D (mTY cI cC cT) out (va_A (List.flatten [(W_M cI cC cT h0 h1 h2 h3 h4 h5 h6 h7 h8 h9 h10 hlg tk fx xl xp rmn hdn few mst fal al sv hi sn ch my kp tx rd wy)]) sz) (List.flatten [(W_M cI cC cT h0 h1 h2 h3 h4 h5 h6 h7 h8 h9 h10 hlg tk fx xl xp rmn hdn few mst fal al sv hi sn ch my kp tx rd wy)])) 0 0 (va_A (List.flatten [(W_M cI cC cT h0 h1 h2 h3 h4 h5 h6 h7 h8 h9 h10 hlg tk fx xl xp rmn hdn few mst fal al sv hi sn ch my kp tx rd wy)]) sz) := by
  refine mEnt (cc := cX6_mendings) (maxL := 3) (ret := (some .int)) (own := RX6) (Qq := fun A => mQi D (mTY cI cC cT) out A (List.flatten [(W_M cI cC cT h0 h1 h2 h3 h4 h5 h6 h7 h8 h9 h10 hlg tk fx xl xp rmn hdn few mst fal al sv hi sn ch my kp tx rd wy)])) (by decide) rfl rfl (Nat.le_of_ble_eq_true rfl) ?_
  intro p e s m below meth c A ls H locs hx hb hr hml hlocks hown hts hN hA hP hK hD hS hl
  have hin_X6 : ∀ w ∈ u_ws RX6 TX6 20, w ∈ wsX6_mendings := by decide +kernel
  have fl_25 := hts (.fieldLink RX6 25 "SureMendingsModel" "many" "[I") (by decide +kernel)
  have hl : lv_has ls 3 [(0, .ref h0)] := hl
  unfold f_X6_mendings at hf
  refine lv_iconst (v := 1) hx hb dX6_mendings_0 (by decide) ?_
  refine lv_istore_n (lv' := [(1, .int 1), (0, .ref h0)]) hx hb dX6_mendings_1 rfl hl (by decide) rfl (fun ls hl => ?_)
  refine lv_iconst (v := 0) hx hb dX6_mendings_2 (by decide) ?_
  refine lv_istore_n (lv' := [(2, .int 0), (1, .int 1), (0, .ref h0)]) hx hb dX6_mendings_3 rfl hl (by decide) rfl (fun ls hl => ?_)
  have LP_3 : ∀ (n_3 : Nat) (v1_1 : Int32) (v2_2 : Int32), iter n_3 (b_X6_mendings_1 my) ((v1_1, v2_2)) = some out → ∀ (H : Heap) (locs : List Loc), va_P D vwCl (List.flatten [(W_M cI cC cT h0 h1 h2 h3 h4 h5 h6 h7 h8 h9 h10 hlg tk fx xl xp rmn hdn few mst fal al sv hi sn ch my kp tx rd wy)]) H → va_D A (List.flatten [(W_M cI cC cT h0 h1 h2 h3 h4 h5 h6 h7 h8 h9 h10 hlg tk fx xl xp rmn hdn few mst fal al sv hi sn ch my kp tx rd wy)]) → va_S A s.heap H locs → ∀ (ls : Array Slot), lv_has ls 3 [(0, .ref h0), (1, .int v1_1), (2, .int v2_2)] → W p l e rm_X6_mendings s m ([.ref h0] : List Value).toArray below meth c H locs 0 0 (MQ below (mQi D (mTY cI cC cT) out A (List.flatten [(W_M cI cC cT h0 h1 h2 h3 h4 h5 h6 h7 h8 h9 h10 hlg tk fx xl xp rmn hdn few mst fal al sv hi sn ch my kp tx rd wy)])) ([.ref h0] : List Value).toArray s 0 0 A) (F0 m 4 ls []) := by
    intro n_3
    induction n_3 with
    | zero => intro v1_1 v2_2 hf; exact (iter_zero hf).elim
    | succ n_3 ih_3 =>
      intro v1_1 v2_2 hf H locs hP hD hS ls hl
      obtain ⟨o_3, hf, ho_3⟩ := iter_succ hf
      dsimp only [b_X6_mendings_1] at hf
      refine lv_iload_n hx hb dX6_mendings_4 rfl (lv_at hl 2 rfl) ?_
      refine lv_bipush (v := 10) hx hb dX6_mendings_5 (by decide) ?_
      refine lv_icmp_ge (tgt := 38) hx hb dX6_mendings_7 (by decide) (fun c_4 => ?_) (fun c_4 => ?_)
      · have hf := ite_t hf c_4
        refine lv_iload_n hx hb dX6_mendings_38 rfl (lv_at hl 1 rfl) ?_
        cases hf
        have hf := ho_3.2 _ rfl
        cases hf
        exact mIret hx hb hr hlocks hP hD hK hS dX6_mendings_39
      · have hf := ite_f hf c_4
        refine lv_iload_n hx hb dX6_mendings_10 rfl (lv_at hl 1 rfl) ?_
        refine lv_aload_n hx hb dX6_mendings_11 rfl (lv_at hl 0 rfl) ?_
        refine va_get (D := D) (ci := 6) (v := .ref h6) (C := RX6) (T := TX6) (N := 20) hx hb hts hin_X6 hown hK hP 0 rfl rfl 7 (by decide) fl_25 (fun _ h9 => h9) rfl dX6_mendings_12 ?_
        refine lv_iload_n hx hb dX6_mendings_15 rfl (lv_at hl 2 rfl) ?_
        obtain ⟨h_5, hf⟩ := grd hf
        refine va_iald hx hb hK hP 6 0 rfl rfl h_5 dX6_mendings_16 ?_
        obtain ⟨x_6, q_8, hf⟩ := bnd hf
        have K_7 : ∀ (H : Heap) (locs : List Loc), va_P D vwCl (List.flatten [(W_M cI cC cT h0 h1 h2 h3 h4 h5 h6 h7 h8 h9 h10 hlg tk fx xl xp rmn hdn few mst fal al sv hi sn ch my kp tx rd wy)]) H → va_D A (List.flatten [(W_M cI cC cT h0 h1 h2 h3 h4 h5 h6 h7 h8 h9 h10 hlg tk fx xl xp rmn hdn few mst fal al sv hi sn ch my kp tx rd wy)]) → va_S A s.heap H locs → ∀ (ls : Array Slot), lv_has ls 3 [(0, .ref h0), (2, .int v2_2)] → W p l e rm_X6_mendings s m ([.ref h0] : List Value).toArray below meth c H locs 0 0 (MQ below (mQi D (mTY cI cC cT) out A (List.flatten [(W_M cI cC cT h0 h1 h2 h3 h4 h5 h6 h7 h8 h9 h10 hlg tk fx xl xp rmn hdn few mst fal al sv hi sn ch my kp tx rd wy)])) ([.ref h0] : List Value).toArray s 0 0 A) (F0 m 30 ls [.int x_6, .int v1_1]) := by
          intro H locs hP hD hS ls hl
          refine lv_imul hx hb dX6_mendings_30 ?_
          refine lv_istore_n (lv' := [(1, .int (v1_1 * x_6)), (0, .ref h0), (2, .int v2_2)]) hx hb dX6_mendings_31 rfl hl (by decide) rfl (fun ls hl => ?_)
          refine lv_iinc (v := v2_2 + 1) (lv' := [(2, .int (v2_2 + 1)), (1, .int (v1_1 * x_6)), (0, .ref h0)]) hx hb dX6_mendings_32 hl (k := 2) rfl rfl (by decide) rfl (fun ls hl => ?_)
          refine lv_goto (tgt := 4) hx hb dX6_mendings_35 (by decide) ?_
          cases hf
          have hf := ho_3.1 _ rfl
          exact ih_3 _ _ hf _ _ hP hD hS _ (lv_sub hl [2, 1, 0] rfl)
        have hf := q_8
        refine lv_if_ne (tgt := 24) hx hb dX6_mendings_17 (by decide) (fun c_9 => ?_) (fun c_9 => ?_)
        · have hf := ite_f hf c_9
          refine lv_aload_n hx hb dX6_mendings_24 rfl (lv_at hl 0 rfl) ?_
          refine va_get (D := D) (ci := 6) (v := .ref h6) (C := RX6) (T := TX6) (N := 20) hx hb hts hin_X6 hown hK hP 0 rfl rfl 7 (by decide) fl_25 (fun _ h9 => h9) rfl dX6_mendings_25 ?_
          refine lv_iload_n hx hb dX6_mendings_28 rfl (lv_at hl 2 rfl) ?_
          obtain ⟨h_10, hf⟩ := grd hf
          refine va_iald hx hb hK hP 6 0 rfl rfl h_10 dX6_mendings_29 ?_
          cases hf
          exact K_7 _ _ hP hD hS _ (lv_sub hl [0, 2] rfl)
        · have hf := ite_t hf c_9
          refine lv_iconst (v := 1) hx hb dX6_mendings_20 (by decide) ?_
          refine lv_goto (tgt := 30) hx hb dX6_mendings_21 (by decide) ?_
          cases hf
          exact K_7 _ _ hP hD hS _ (lv_sub hl [0, 2] rfl)
  exact LP_3 _ _ _ hf _ _ hP hD hS _ (lv_sub hl [2, 1, 0] rfl)
abbrev rm_X6_takes : Room := { frames := 0, cells := 0, slots := 0, locals := 0 }
set_option maxHeartbeats 4000000 in
set_option maxRecDepth 100000 in
theorem c_X6_takes (l : Launch) (D : va_G) (cI cC cT : ClassId) (h0 h1 h2 h3 h4 h5 h6 h7 h8 h9 h10 : Nat) (hlg : Int32) (tk : Int32) (fx : Int32) (xl : Int32) (xp : Int32) (rmn : Int32) (hdn : Int32) (few : Int32) (mst : Int32) (fal : Int32) (al : Nat → Int32) (sv : Nat → Int32) (hi : Nat → Int32) (sn : Nat → Int32) (ch : Nat → Int32) (my : Nat → Int32) (kp : Nat → Int32) (tx : Nat → Int32) (rd : Nat → Int32) (wy : Nat → Int32) (sz : Nat) (p0 : Int32) (o_kp : Nat → Int32) (hf : f_X6_takes ch my kp p0 = some o_kp) : Met l yX6_takes wsX6_takes rm_X6_takes (mP D (mTY cI cC cT) [.ref h0, .int p0] (List.flatten [(W_M cI cC cT h0 h1 h2 h3 h4 h5 h6 h7 h8 h9 h10 hlg tk fx xl xp rmn hdn few mst fal al sv hi sn ch my kp tx rd wy)]) sz) (mQv D (mTY cI cC cT) (va_A (List.flatten [(W_M cI cC cT h0 h1 h2 h3 h4 h5 h6 h7 h8 h9 h10 hlg tk fx xl xp rmn hdn few mst fal al sv hi sn ch my kp tx rd wy)]) sz) (List.flatten [(W_M cI cC cT h0 h1 h2 h3 h4 h5 h6 h7 h8 h9 h10 hlg tk fx xl xp rmn hdn few mst fal al sv hi sn ch my o_kp tx rd wy)])) 0 0 (va_A (List.flatten [(W_M cI cC cT h0 h1 h2 h3 h4 h5 h6 h7 h8 h9 h10 hlg tk fx xl xp rmn hdn few mst fal al sv hi sn ch my kp tx rd wy)]) sz) := by
  refine mEnt (cc := cX6_takes) (maxL := 5) (ret := none) (own := RX6) (Qq := fun A => mQv D (mTY cI cC cT) A (List.flatten [(W_M cI cC cT h0 h1 h2 h3 h4 h5 h6 h7 h8 h9 h10 hlg tk fx xl xp rmn hdn few mst fal al sv hi sn ch my o_kp tx rd wy)])) (by decide) rfl rfl (Nat.le_of_ble_eq_true rfl) ?_
  intro p e s m below meth c A ls H locs hx hb hr hml hlocks hown hts hN hA hP hK hD hS hl
  have hin_X6 : ∀ w ∈ u_ws RX6 TX6 20, w ∈ wsX6_takes := by decide +kernel
  have fl_22 := hts (.fieldLink RX6 22 "SureMendingsModel" "choices" "[I") (by decide +kernel)
  have fl_25 := hts (.fieldLink RX6 25 "SureMendingsModel" "many" "[I") (by decide +kernel)
  have fl_28 := hts (.fieldLink RX6 28 "SureMendingsModel" "kept" "[I") (by decide +kernel)
  have hl : lv_has ls 5 [(0, .ref h0), (1, .int p0)] := hl
  unfold f_X6_takes at hf
  refine lv_iload_n hx hb dX6_takes_0 rfl (lv_at hl 1 rfl) ?_
  refine lv_istore_n (lv' := [(2, .int p0), (0, .ref h0), (1, .int p0)]) hx hb dX6_takes_1 rfl hl (by decide) rfl (fun ls hl => ?_)
  refine lv_iconst (v := 0) hx hb dX6_takes_2 (by decide) ?_
  refine lv_istore_n (lv' := [(3, .int 0), (2, .int p0), (0, .ref h0), (1, .int p0)]) hx hb dX6_takes_3 rfl hl (by decide) rfl (fun ls hl => ?_)
  have LP_4 : ∀ (n_4 : Nat) (v2_1 : Int32) (v3_2 : Int32) (kp_3 : Nat → Int32), iter n_4 (b_X6_takes_1 ch my) ((v2_1, v3_2, kp_3)) = some o_kp → ∀ (H : Heap) (locs : List Loc), va_P D vwCl (List.flatten [(W_M cI cC cT h0 h1 h2 h3 h4 h5 h6 h7 h8 h9 h10 hlg tk fx xl xp rmn hdn few mst fal al sv hi sn ch my kp_3 tx rd wy)]) H → va_D A (List.flatten [(W_M cI cC cT h0 h1 h2 h3 h4 h5 h6 h7 h8 h9 h10 hlg tk fx xl xp rmn hdn few mst fal al sv hi sn ch my kp_3 tx rd wy)]) → va_S A s.heap H locs → ∀ (ls : Array Slot), lv_has ls 5 [(0, .ref h0), (2, .int v2_1), (3, .int v3_2)] → W p l e rm_X6_takes s m ([.ref h0, .int p0] : List Value).toArray below meth c H locs 0 0 (MQ below (mQv D (mTY cI cC cT) A (List.flatten [(W_M cI cC cT h0 h1 h2 h3 h4 h5 h6 h7 h8 h9 h10 hlg tk fx xl xp rmn hdn few mst fal al sv hi sn ch my o_kp tx rd wy)])) ([.ref h0, .int p0] : List Value).toArray s 0 0 A) (F0 m 4 ls []) := by
    intro n_4
    induction n_4 with
    | zero => intro v2_1 v3_2 kp_3 hf; exact (iter_zero hf).elim
    | succ n_4 ih_4 =>
      intro v2_1 v3_2 kp_3 hf H locs hP hD hS ls hl
      obtain ⟨o_4, hf, ho_4⟩ := iter_succ hf
      dsimp only [b_X6_takes_1] at hf
      refine lv_iload_n hx hb dX6_takes_4 rfl (lv_at hl 2 rfl) ?_
      refine lv_bipush (v := 10) hx hb dX6_takes_5 (by decide) ?_
      refine lv_icmp_ge (tgt := 68) hx hb dX6_takes_7 (by decide) (fun c_5 => ?_) (fun c_5 => ?_)
      · have hf := ite_t hf c_5
        cases hf
        have hf := ho_4.2 _ rfl
        cases hf
        exact mVret hx hb hr hlocks hP hD hK hS dX6_takes_68
      · have hf := ite_f hf c_5
        refine lv_aload_n hx hb dX6_takes_10 rfl (lv_at hl 0 rfl) ?_
        refine va_get (D := D) (ci := 6) (v := .ref h6) (C := RX6) (T := TX6) (N := 20) hx hb hts hin_X6 hown hK hP 0 rfl rfl 7 (by decide) fl_25 (fun _ h9 => h9) rfl dX6_takes_11 ?_
        refine lv_iload_n hx hb dX6_takes_14 rfl (lv_at hl 2 rfl) ?_
        obtain ⟨h_6, hf⟩ := grd hf
        refine va_iald hx hb hK hP 6 0 rfl rfl h_6 dX6_takes_15 ?_
        refine lv_istore (lv' := [(4, .int (my v3_2.toNatClampNeg)), (0, .ref h0), (2, .int v2_1), (3, .int v3_2)]) hx hb dX6_takes_16 hl (by decide) rfl (fun ls hl => ?_)
        refine lv_aload_n hx hb dX6_takes_18 rfl (lv_at hl 1 rfl) ?_
        refine va_get (D := D) (ci := 6) (v := .ref h7) (C := RX6) (T := TX6) (N := 20) hx hb hts hin_X6 hown hK hP 0 rfl rfl 8 (by decide) fl_28 (fun _ h9 => h9) rfl dX6_takes_19 ?_
        refine lv_iload_n hx hb dX6_takes_22 rfl (lv_at hl 3 rfl) ?_
        refine lv_iload hx hb dX6_takes_23 (lv_at hl 0 rfl) ?_
        obtain ⟨x_7, q_9, hf⟩ := bnd hf
        have K_8 : ∀ (H : Heap) (locs : List Loc), va_P D vwCl (List.flatten [(W_M cI cC cT h0 h1 h2 h3 h4 h5 h6 h7 h8 h9 h10 hlg tk fx xl xp rmn hdn few mst fal al sv hi sn ch my kp_3 tx rd wy)]) H → va_D A (List.flatten [(W_M cI cC cT h0 h1 h2 h3 h4 h5 h6 h7 h8 h9 h10 hlg tk fx xl xp rmn hdn few mst fal al sv hi sn ch my kp_3 tx rd wy)]) → va_S A s.heap H locs → ∀ (ls : Array Slot), lv_has ls 5 [(0, .ref h0), (2, .int v2_1), (3, .int v3_2), (4, .int (my v3_2.toNatClampNeg))] → W p l e rm_X6_takes s m ([.ref h0, .int p0] : List Value).toArray below meth c H locs 0 0 (MQ below (mQv D (mTY cI cC cT) A (List.flatten [(W_M cI cC cT h0 h1 h2 h3 h4 h5 h6 h7 h8 h9 h10 hlg tk fx xl xp rmn hdn few mst fal al sv hi sn ch my o_kp tx rd wy)])) ([.ref h0, .int p0] : List Value).toArray s 0 0 A) (F0 m 47 ls [.int x_7, .int v3_2, .ref h7]) := by
          intro H locs hP hD hS ls hl
          obtain ⟨h_13, hf⟩ := grd hf
          refine va_iast hx hb hK hP hD hS 7 0 rfl rfl h_13 dX6_takes_47 (fun H locs hP hD hS => ?_)
          have hP : va_P D vwCl (List.flatten [(W_M cI cC cT h0 h1 h2 h3 h4 h5 h6 h7 h8 h9 h10 hlg tk fx xl xp rmn hdn few mst fal al sv hi sn ch my (upd kp_3 v3_2.toNatClampNeg x_7) tx rd wy)]) H := hP
          have hD : va_D A (List.flatten [(W_M cI cC cT h0 h1 h2 h3 h4 h5 h6 h7 h8 h9 h10 hlg tk fx xl xp rmn hdn few mst fal al sv hi sn ch my (upd kp_3 v3_2.toNatClampNeg x_7) tx rd wy)]) := hD
          refine lv_iload hx hb dX6_takes_48 (lv_at hl 3 rfl) ?_
          obtain ⟨x_14, q_16, hf⟩ := bnd hf
          have K_15 : ∀ (H : Heap) (locs : List Loc), va_P D vwCl (List.flatten [(W_M cI cC cT h0 h1 h2 h3 h4 h5 h6 h7 h8 h9 h10 hlg tk fx xl xp rmn hdn few mst fal al sv hi sn ch my (upd kp_3 v3_2.toNatClampNeg x_7) tx rd wy)]) H → va_D A (List.flatten [(W_M cI cC cT h0 h1 h2 h3 h4 h5 h6 h7 h8 h9 h10 hlg tk fx xl xp rmn hdn few mst fal al sv hi sn ch my (upd kp_3 v3_2.toNatClampNeg x_7) tx rd wy)]) → va_S A s.heap H locs → ∀ (ls : Array Slot), lv_has ls 5 [(0, .ref h0), (3, .int v3_2)] → W p l e rm_X6_takes s m ([.ref h0, .int p0] : List Value).toArray below meth c H locs 0 0 (MQ below (mQv D (mTY cI cC cT) A (List.flatten [(W_M cI cC cT h0 h1 h2 h3 h4 h5 h6 h7 h8 h9 h10 hlg tk fx xl xp rmn hdn few mst fal al sv hi sn ch my o_kp tx rd wy)])) ([.ref h0, .int p0] : List Value).toArray s 0 0 A) (F0 m 61 ls [.int x_14]) := by
            intro H locs hP hD hS ls hl
            refine lv_istore_n (lv' := [(2, .int x_14), (0, .ref h0), (3, .int v3_2)]) hx hb dX6_takes_61 rfl hl (by decide) rfl (fun ls hl => ?_)
            refine lv_iinc (v := v3_2 + 1) (lv' := [(3, .int (v3_2 + 1)), (2, .int x_14), (0, .ref h0)]) hx hb dX6_takes_62 hl (k := 2) rfl rfl (by decide) rfl (fun ls hl => ?_)
            refine lv_goto (tgt := 4) hx hb dX6_takes_65 (by decide) ?_
            cases hf
            have hf := ho_4.1 _ rfl
            exact ih_4 _ _ _ hf _ _ hP hD hS _ (lv_sub hl [2, 1, 0] rfl)
          have hf := q_16
          refine lv_if_ne (tgt := 57) hx hb dX6_takes_50 (by decide) (fun c_17 => ?_) (fun c_17 => ?_)
          · have hf := ite_f hf c_17
            refine lv_iload_n hx hb dX6_takes_57 rfl (lv_at hl 1 rfl) ?_
            refine lv_iload hx hb dX6_takes_58 (lv_at hl 3 rfl) ?_
            obtain ⟨h_18, hf⟩ := grd hf
            refine lv_idiv hx hb dX6_takes_60 h_18 ?_
            cases hf
            exact K_15 _ _ hP hD hS _ (lv_sub hl [0, 2] rfl)
          · have hf := ite_t hf c_17
            refine lv_iload_n hx hb dX6_takes_53 rfl (lv_at hl 1 rfl) ?_
            refine lv_goto (tgt := 61) hx hb dX6_takes_54 (by decide) ?_
            cases hf
            exact K_15 _ _ hP hD hS _ (lv_sub hl [0, 2] rfl)
        have hf := q_9
        refine lv_if_ne (tgt := 33) hx hb dX6_takes_25 (by decide) (fun c_10 => ?_) (fun c_10 => ?_)
        · have hf := ite_f hf c_10
          refine lv_aload_n hx hb dX6_takes_33 rfl (lv_at hl 1 rfl) ?_
          refine va_get (D := D) (ci := 6) (v := .ref h5) (C := RX6) (T := TX6) (N := 20) hx hb hts hin_X6 hown hK hP 0 rfl rfl 6 (by decide) fl_22 (fun _ h9 => h9) rfl dX6_takes_34 ?_
          refine lv_bipush (v := 20) hx hb dX6_takes_37 (by decide) ?_
          refine lv_iload_n hx hb dX6_takes_39 rfl (lv_at hl 3 rfl) ?_
          refine lv_imul hx hb dX6_takes_40 ?_
          refine lv_iload_n hx hb dX6_takes_41 rfl (lv_at hl 2 rfl) ?_
          refine lv_iload hx hb dX6_takes_42 (lv_at hl 0 rfl) ?_
          obtain ⟨h_11, hf⟩ := grd hf
          refine lv_irem hx hb dX6_takes_44 h_11 ?_
          refine lv_iadd hx hb dX6_takes_45 ?_
          obtain ⟨h_12, hf⟩ := grd hf
          refine va_iald hx hb hK hP 5 0 rfl rfl h_12 dX6_takes_46 ?_
          cases hf
          exact K_8 _ _ hP hD hS _ (lv_sub hl [1, 2, 3, 0] rfl)
        · have hf := ite_t hf c_10
          refine lv_bipush (v := -5) hx hb dX6_takes_28 (by decide) ?_
          refine lv_goto (tgt := 47) hx hb dX6_takes_30 (by decide) ?_
          cases hf
          exact K_8 _ _ hP hD hS _ (lv_sub hl [1, 2, 3, 0] rfl)
  exact LP_4 _ _ _ _ hf _ _ hP hD hS _ (lv_sub hl [2, 1, 0] rfl)
abbrev rm_X6_kept : Room := { frames := 1, cells := 0, slots := 0, locals := 22 }
set_option maxHeartbeats 4000000 in
set_option maxRecDepth 100000 in
theorem c_X6_kept (l : Launch) (D : va_G) (cI cC cT : ClassId) (h0 h1 h2 h3 h4 h5 h6 h7 h8 h9 h10 : Nat) (hlg : Int32) (tk : Int32) (fx : Int32) (xl : Int32) (xp : Int32) (rmn : Int32) (hdn : Int32) (few : Int32) (mst : Int32) (fal : Int32) (al : Nat → Int32) (sv : Nat → Int32) (hi : Nat → Int32) (sn : Nat → Int32) (ch : Nat → Int32) (my : Nat → Int32) (kp : Nat → Int32) (tx : Nat → Int32) (rd : Nat → Int32) (wy : Nat → Int32) (sz : Nat) (p0 : Int32) (out : Int32) (hf : f_X6_kept al kp p0 = some out) : Met l yX6_kept wsX6_kept rm_X6_kept (mP D (mTY cI cC cT) [.ref h0, .int p0] (List.flatten [(W_M cI cC cT h0 h1 h2 h3 h4 h5 h6 h7 h8 h9 h10 hlg tk fx xl xp rmn hdn few mst fal al sv hi sn ch my kp tx rd wy)]) sz) (mQi D (mTY cI cC cT) out (va_A (List.flatten [(W_M cI cC cT h0 h1 h2 h3 h4 h5 h6 h7 h8 h9 h10 hlg tk fx xl xp rmn hdn few mst fal al sv hi sn ch my kp tx rd wy)]) sz) (List.flatten [(W_M cI cC cT h0 h1 h2 h3 h4 h5 h6 h7 h8 h9 h10 hlg tk fx xl xp rmn hdn few mst fal al sv hi sn ch my kp tx rd wy)])) 0 0 (va_A (List.flatten [(W_M cI cC cT h0 h1 h2 h3 h4 h5 h6 h7 h8 h9 h10 hlg tk fx xl xp rmn hdn few mst fal al sv hi sn ch my kp tx rd wy)]) sz) := by
  refine mEnt (cc := cX6_kept) (maxL := 4) (ret := (some .int)) (own := RX6) (Qq := fun A => mQi D (mTY cI cC cT) out A (List.flatten [(W_M cI cC cT h0 h1 h2 h3 h4 h5 h6 h7 h8 h9 h10 hlg tk fx xl xp rmn hdn few mst fal al sv hi sn ch my kp tx rd wy)])) (by decide) rfl rfl (Nat.le_of_ble_eq_true rfl) ?_
  intro p e s m below meth c A ls H locs hx hb hr hml hlocks hown hts hN hA hP hK hD hS hl
  have hin_X6 : ∀ w ∈ u_ws RX6 TX6 20, w ∈ wsX6_kept := by decide +kernel
  have fl_28 := hts (.fieldLink RX6 28 "SureMendingsModel" "kept" "[I") (by decide +kernel)
  have hl : lv_has ls 4 [(0, .ref h0), (1, .int p0)] := hl
  unfold f_X6_kept at hf
  refine lv_iconst (v := 0) hx hb dX6_kept_0 (by decide) ?_
  refine lv_istore_n (lv' := [(2, .int 0), (0, .ref h0), (1, .int p0)]) hx hb dX6_kept_1 rfl hl (by decide) rfl (fun ls hl => ?_)
  refine lv_iconst (v := 0) hx hb dX6_kept_2 (by decide) ?_
  refine lv_istore_n (lv' := [(3, .int 0), (2, .int 0), (0, .ref h0), (1, .int p0)]) hx hb dX6_kept_3 rfl hl (by decide) rfl (fun ls hl => ?_)
  have LP_3 : ∀ (n_3 : Nat) (v2_1 : Int32) (v3_2 : Int32), iter n_3 (b_X6_kept_1 al kp p0) ((v2_1, v3_2)) = some out → ∀ (H : Heap) (locs : List Loc), va_P D vwCl (List.flatten [(W_M cI cC cT h0 h1 h2 h3 h4 h5 h6 h7 h8 h9 h10 hlg tk fx xl xp rmn hdn few mst fal al sv hi sn ch my kp tx rd wy)]) H → va_D A (List.flatten [(W_M cI cC cT h0 h1 h2 h3 h4 h5 h6 h7 h8 h9 h10 hlg tk fx xl xp rmn hdn few mst fal al sv hi sn ch my kp tx rd wy)]) → va_S A s.heap H locs → ∀ (ls : Array Slot), lv_has ls 4 [(0, .ref h0), (1, .int p0), (2, .int v2_1), (3, .int v3_2)] → W p l e rm_X6_kept s m ([.ref h0, .int p0] : List Value).toArray below meth c H locs 0 0 (MQ below (mQi D (mTY cI cC cT) out A (List.flatten [(W_M cI cC cT h0 h1 h2 h3 h4 h5 h6 h7 h8 h9 h10 hlg tk fx xl xp rmn hdn few mst fal al sv hi sn ch my kp tx rd wy)])) ([.ref h0, .int p0] : List Value).toArray s 0 0 A) (F0 m 4 ls []) := by
    intro n_3
    induction n_3 with
    | zero => intro v2_1 v3_2 hf; exact (iter_zero hf).elim
    | succ n_3 ih_3 =>
      intro v2_1 v3_2 hf H locs hP hD hS ls hl
      obtain ⟨o_3, hf, ho_3⟩ := iter_succ hf
      dsimp only [b_X6_kept_1] at hf
      refine lv_iload_n hx hb dX6_kept_4 rfl (lv_at hl 3 rfl) ?_
      refine lv_bipush (v := 10) hx hb dX6_kept_5 (by decide) ?_
      refine lv_icmp_ge (tgt := 50) hx hb dX6_kept_7 (by decide) (fun c_4 => ?_) (fun c_4 => ?_)
      · have hf := ite_t hf c_4
        refine lv_iload_n hx hb dX6_kept_50 rfl (lv_at hl 2 rfl) ?_
        cases hf
        have hf := ho_3.2 _ rfl
        cases hf
        exact mIret hx hb hr hlocks hP hD hK hS dX6_kept_51
      · have hf := ite_f hf c_4
        refine lv_iload_n hx hb dX6_kept_10 rfl (lv_at hl 2 rfl) ?_
        refine lv_aload_n hx hb dX6_kept_11 rfl (lv_at hl 0 rfl) ?_
        refine va_get (D := D) (ci := 6) (v := .ref h7) (C := RX6) (T := TX6) (N := 20) hx hb hts hin_X6 hown hK hP 0 rfl rfl 8 (by decide) fl_28 (fun _ h9 => h9) rfl dX6_kept_12 ?_
        refine lv_iload_n hx hb dX6_kept_15 rfl (lv_at hl 3 rfl) ?_
        obtain ⟨h_5, hf⟩ := grd hf
        refine va_iald hx hb hK hP 7 0 rfl rfl h_5 dX6_kept_16 ?_
        refine lv_bipush (v := -5) hx hb dX6_kept_17 (by decide) ?_
        obtain ⟨x_6, q_8, hf⟩ := bnd hf
        have K_7 : ∀ (H : Heap) (locs : List Loc), va_P D vwCl (List.flatten [(W_M cI cC cT h0 h1 h2 h3 h4 h5 h6 h7 h8 h9 h10 hlg tk fx xl xp rmn hdn few mst fal al sv hi sn ch my kp tx rd wy)]) H → va_D A (List.flatten [(W_M cI cC cT h0 h1 h2 h3 h4 h5 h6 h7 h8 h9 h10 hlg tk fx xl xp rmn hdn few mst fal al sv hi sn ch my kp tx rd wy)]) → va_S A s.heap H locs → ∀ (ls : Array Slot), lv_has ls 4 [(0, .ref h0), (1, .int p0), (3, .int v3_2)] → W p l e rm_X6_kept s m ([.ref h0, .int p0] : List Value).toArray below meth c H locs 0 0 (MQ below (mQi D (mTY cI cC cT) out A (List.flatten [(W_M cI cC cT h0 h1 h2 h3 h4 h5 h6 h7 h8 h9 h10 hlg tk fx xl xp rmn hdn few mst fal al sv hi sn ch my kp tx rd wy)])) ([.ref h0, .int p0] : List Value).toArray s 0 0 A) (F0 m 42 ls [.int x_6, .int v2_1]) := by
          intro H locs hP hD hS ls hl
          refine lv_iadd hx hb dX6_kept_42 ?_
          refine lv_istore_n (lv' := [(2, .int (v2_1 + x_6)), (0, .ref h0), (1, .int p0), (3, .int v3_2)]) hx hb dX6_kept_43 rfl hl (by decide) rfl (fun ls hl => ?_)
          refine lv_iinc (v := v3_2 + 1) (lv' := [(3, .int (v3_2 + 1)), (2, .int (v2_1 + x_6)), (0, .ref h0), (1, .int p0)]) hx hb dX6_kept_44 hl (k := 3) rfl rfl (by decide) rfl (fun ls hl => ?_)
          refine lv_goto (tgt := 4) hx hb dX6_kept_47 (by decide) ?_
          cases hf
          have hf := ho_3.1 _ rfl
          exact ih_3 _ _ hf _ _ hP hD hS _ (lv_sub hl [2, 3, 1, 0] rfl)
        have hf := q_8
        refine lv_icmp_eq (tgt := 41) hx hb dX6_kept_19 (by decide) (fun c_9 => ?_) (fun c_9 => ?_)
        · have hf := ite_t hf c_9
          refine lv_iconst (v := 0) hx hb dX6_kept_41 (by decide) ?_
          cases hf
          exact K_7 _ _ hP hD hS _ (lv_sub hl [0, 1, 3] rfl)
        · have hf := ite_f hf c_9
          refine lv_aload_n hx hb dX6_kept_22 rfl (lv_at hl 0 rfl) ?_
          refine lv_aload_n hx hb dX6_kept_23 rfl (lv_at hl 0 rfl) ?_
          refine va_get (D := D) (ci := 6) (v := .ref h7) (C := RX6) (T := TX6) (N := 20) hx hb hts hin_X6 hown hK hP 0 rfl rfl 8 (by decide) fl_28 (fun _ h9 => h9) rfl dX6_kept_24 ?_
          refine lv_iload_n hx hb dX6_kept_27 rfl (lv_at hl 3 rfl) ?_
          obtain ⟨h_10, hf⟩ := grd hf
          refine va_iald hx hb hK hP 7 0 rfl rfl h_10 dX6_kept_28 ?_
          refine lv_iconst (v := 1) hx hb dX6_kept_29 (by decide) ?_
          obtain ⟨r_11, q_12, hf⟩ := bnd hf
          refine mGoiS (segs := [(W_M cI cC cT h0 h1 h2 h3 h4 h5 h6 h7 h8 h9 h10 hlg tk fx xl xp rmn hdn few mst fal al sv hi sn ch my kp tx rd wy)]) (wcs := [(W_M cI cC cT h0 h1 h2 h3 h4 h5 h6 h7 h8 h9 h10 hlg tk fx xl xp rmn hdn few mst fal al sv hi sn ch my kp tx rd wy)]) (w1s := [(W_M cI cC cT h0 h1 h2 h3 h4 h5 h6 h7 h8 h9 h10 hlg tk fx xl xp rmn hdn few mst fal al sv hi sn ch my kp tx rd wy)]) (w2s := [(W_M cI cC cT h0 h1 h2 h3 h4 h5 h6 h7 h8 h9 h10 hlg tk fx xl xp rmn hdn few mst fal al sv hi sn ch my kp tx rd wy)]) rfl rfl (va_runV (As := [.int (kp v3_2.toNatClampNeg), .int 1]) (rest := [.int v2_1]) ⟨hx, hb, hml, hown, hts⟩ (c_X6_of l D cI cC cT h0 h1 h2 h3 h4 h5 h6 h7 h8 h9 h10 hlg tk fx xl xp rmn hdn few mst fal al sv hi sn ch my kp tx rd wy H.size (kp v3_2.toNatClampNeg) 1 r_11 q_12) (cwV 2 hts gX6_kept_X6_of rfl rfl rfl (by decide +kernel) ⟨Nat.le_of_ble_eq_true rfl, Nat.le_of_ble_eq_true rfl⟩) (mPreVS [(W_M cI cC cT h0 h1 h2 h3 h4 h5 h6 h7 h8 h9 h10 hlg tk fx xl xp rmn hdn few mst fal al sv hi sn ch my kp tx rd wy)] rfl hP hD hK hN [0] rfl (by decide) (va_recv hK (sP hP 0 rfl) (ci := 6) (q0 := 0) rfl rfl)) rfl rfl hl.1 rfl (lv_room (Nat.le_of_ble_eq_true rfl)) dX6_kept_30 ⟨Nat.zero_le _, Nat.zero_le _⟩) hP hD hS hA [0] rfl rfl rfl rfl (fun H locs hP hD hS => ?_)
          refine lv_iload_n hx hb dX6_kept_33 rfl (lv_at hl 1 rfl) ?_
          refine lv_icmp_ne (tgt := 41) hx hb dX6_kept_34 (by decide) (fun c_13 => ?_) (fun c_13 => ?_)
          · have hf := ite_f hf c_13
            refine lv_iconst (v := 0) hx hb dX6_kept_41 (by decide) ?_
            cases hf
            exact K_7 _ _ hP hD hS _ (lv_sub hl [0, 1, 3] rfl)
          · have hf := ite_t hf c_13
            refine lv_iconst (v := 1) hx hb dX6_kept_37 (by decide) ?_
            refine lv_goto (tgt := 42) hx hb dX6_kept_38 (by decide) ?_
            cases hf
            exact K_7 _ _ hP hD hS _ (lv_sub hl [0, 1, 3] rfl)
  exact LP_3 _ _ _ hf _ _ hP hD hS _ (lv_sub hl [2, 3, 1, 0] rfl)
abbrev rm_X6_counts : Room := { frames := 0, cells := 0, slots := 0, locals := 0 }
set_option maxHeartbeats 4000000 in
set_option maxRecDepth 100000 in
theorem c_X6_counts (l : Launch) (D : va_G) (cI cC cT : ClassId) (h0 h1 h2 h3 h4 h5 h6 h7 h8 h9 h10 : Nat) (hlg : Int32) (tk : Int32) (fx : Int32) (xl : Int32) (xp : Int32) (rmn : Int32) (hdn : Int32) (few : Int32) (mst : Int32) (fal : Int32) (al : Nat → Int32) (sv : Nat → Int32) (hi : Nat → Int32) (sn : Nat → Int32) (ch : Nat → Int32) (my : Nat → Int32) (kp : Nat → Int32) (tx : Nat → Int32) (rd : Nat → Int32) (wy : Nat → Int32) (sz : Nat) (p0 : Int32) (p1 : Int32) (p2 : Int32) (o_hdn : Int32) (o_few : Int32) (o_mst : Int32) (o_fal : Int32) (hf : f_X6_counts hdn few mst fal p0 p1 p2 = some ((o_hdn, o_few, o_mst, o_fal))) : Met l yX6_counts wsX6_counts rm_X6_counts (mP D (mTY cI cC cT) [.ref h0, .int p0, .int p1, .int p2] (List.flatten [(W_M cI cC cT h0 h1 h2 h3 h4 h5 h6 h7 h8 h9 h10 hlg tk fx xl xp rmn hdn few mst fal al sv hi sn ch my kp tx rd wy)]) sz) (mQv D (mTY cI cC cT) (va_A (List.flatten [(W_M cI cC cT h0 h1 h2 h3 h4 h5 h6 h7 h8 h9 h10 hlg tk fx xl xp rmn hdn few mst fal al sv hi sn ch my kp tx rd wy)]) sz) (List.flatten [(W_M cI cC cT h0 h1 h2 h3 h4 h5 h6 h7 h8 h9 h10 hlg tk fx xl xp rmn o_hdn o_few o_mst o_fal al sv hi sn ch my kp tx rd wy)])) 0 0 (va_A (List.flatten [(W_M cI cC cT h0 h1 h2 h3 h4 h5 h6 h7 h8 h9 h10 hlg tk fx xl xp rmn hdn few mst fal al sv hi sn ch my kp tx rd wy)]) sz) := by
  refine mEnt (cc := cX6_counts) (maxL := 4) (ret := none) (own := RX6) (Qq := fun A => mQv D (mTY cI cC cT) A (List.flatten [(W_M cI cC cT h0 h1 h2 h3 h4 h5 h6 h7 h8 h9 h10 hlg tk fx xl xp rmn o_hdn o_few o_mst o_fal al sv hi sn ch my kp tx rd wy)])) (by decide) rfl rfl (Nat.le_of_ble_eq_true rfl) ?_
  intro p e s m below meth c A ls H locs hx hb hr hml hlocks hown hts hN hA hP hK hD hS hl
  have hin_X6 : ∀ w ∈ u_ws RX6 TX6 20, w ∈ wsX6_counts := by decide +kernel
  have fl_152 := hts (.fieldLink RX6 152 "SureMendingsModel" "holding" "I") (by decide +kernel)
  have fl_155 := hts (.fieldLink RX6 155 "SureMendingsModel" "fewest" "I") (by decide +kernel)
  have fl_158 := hts (.fieldLink RX6 158 "SureMendingsModel" "most" "I") (by decide +kernel)
  have fl_161 := hts (.fieldLink RX6 161 "SureMendingsModel" "failing" "I") (by decide +kernel)
  have hl : lv_has ls 4 [(0, .ref h0), (1, .int p0), (2, .int p1), (3, .int p2)] := hl
  unfold f_X6_counts at hf
  refine lv_aload_n hx hb dX6_counts_0 rfl (lv_at hl 0 rfl) ?_
  refine lv_dup hx hb dX6_counts_1 rfl ?_
  refine va_get (D := D) (ci := 6) (v := .int hdn) (C := RX6) (T := TX6) (N := 20) hx hb hts hin_X6 hown hK hP 0 rfl rfl 15 (by decide) fl_152 (fun _ h9 => h9) rfl dX6_counts_2 ?_
  refine lv_iload_n hx hb dX6_counts_5 rfl (lv_at hl 2 rfl) ?_
  obtain ⟨x_1, q_3, hf⟩ := bnd hf
  have K_2 : ∀ (H : Heap) (locs : List Loc), va_P D vwCl (List.flatten [(W_M cI cC cT h0 h1 h2 h3 h4 h5 h6 h7 h8 h9 h10 hlg tk fx xl xp rmn hdn few mst fal al sv hi sn ch my kp tx rd wy)]) H → va_D A (List.flatten [(W_M cI cC cT h0 h1 h2 h3 h4 h5 h6 h7 h8 h9 h10 hlg tk fx xl xp rmn hdn few mst fal al sv hi sn ch my kp tx rd wy)]) → va_S A s.heap H locs → ∀ (ls : Array Slot), lv_has ls 4 [(0, .ref h0), (1, .int p0), (2, .int p1), (3, .int p2)] → W p l e rm_X6_counts s m ([.ref h0, .int p0, .int p1, .int p2] : List Value).toArray below meth c H locs 0 0 (MQ below (mQv D (mTY cI cC cT) A (List.flatten [(W_M cI cC cT h0 h1 h2 h3 h4 h5 h6 h7 h8 h9 h10 hlg tk fx xl xp rmn o_hdn o_few o_mst o_fal al sv hi sn ch my kp tx rd wy)])) ([.ref h0, .int p0, .int p1, .int p2] : List Value).toArray s 0 0 A) (F0 m 14 ls [.int x_1, .int hdn, .ref h0]) := by
    intro H locs hP hD hS ls hl
    refine lv_iadd hx hb dX6_counts_14 ?_
    refine va_put (D := D) (ci := 6) (v := .int (hdn + x_1)) (ty := .int) (C := RX6) (T := TX6) (N := 20) hx hb hts hin_X6 tyX6 tyX6_ok nmX6 hown hK hP hD hS 0 rfl rfl 15 (by decide) fl_152 (fun _ h9 => h9) rfl (by decide +kernel) rfl rfl (Nat.le_of_ble_eq_true rfl) dX6_counts_15 (fun H locs hP hD hS => ?_)
    have hP : va_P D vwCl (List.flatten [(W_M cI cC cT h0 h1 h2 h3 h4 h5 h6 h7 h8 h9 h10 hlg tk fx xl xp rmn (hdn + x_1) few mst fal al sv hi sn ch my kp tx rd wy)]) H := hP
    have hD : va_D A (List.flatten [(W_M cI cC cT h0 h1 h2 h3 h4 h5 h6 h7 h8 h9 h10 hlg tk fx xl xp rmn (hdn + x_1) few mst fal al sv hi sn ch my kp tx rd wy)]) := hD
    refine lv_aload_n hx hb dX6_counts_18 rfl (lv_at hl 0 rfl) ?_
    refine lv_iload_n hx hb dX6_counts_19 rfl (lv_at hl 2 rfl) ?_
    obtain ⟨x_5, q_7, hf⟩ := bnd hf
    have K_6 : ∀ (H : Heap) (locs : List Loc), va_P D vwCl (List.flatten [(W_M cI cC cT h0 h1 h2 h3 h4 h5 h6 h7 h8 h9 h10 hlg tk fx xl xp rmn (hdn + x_1) few mst fal al sv hi sn ch my kp tx rd wy)]) H → va_D A (List.flatten [(W_M cI cC cT h0 h1 h2 h3 h4 h5 h6 h7 h8 h9 h10 hlg tk fx xl xp rmn (hdn + x_1) few mst fal al sv hi sn ch my kp tx rd wy)]) → va_S A s.heap H locs → ∀ (ls : Array Slot), lv_has ls 4 [(0, .ref h0), (2, .int p1), (3, .int p2)] → W p l e rm_X6_counts s m ([.ref h0, .int p0, .int p1, .int p2] : List Value).toArray below meth c H locs 0 0 (MQ below (mQv D (mTY cI cC cT) A (List.flatten [(W_M cI cC cT h0 h1 h2 h3 h4 h5 h6 h7 h8 h9 h10 hlg tk fx xl xp rmn o_hdn o_few o_mst o_fal al sv hi sn ch my kp tx rd wy)])) ([.ref h0, .int p0, .int p1, .int p2] : List Value).toArray s 0 0 A) (F0 m 40 ls [.int x_5, .ref h0]) := by
      intro H locs hP hD hS ls hl
      refine va_put (D := D) (ci := 6) (v := .int x_5) (ty := .int) (C := RX6) (T := TX6) (N := 20) hx hb hts hin_X6 tyX6 tyX6_ok nmX6 hown hK hP hD hS 0 rfl rfl 18 (by decide) fl_161 (fun _ h9 => h9) rfl (by decide +kernel) rfl rfl (Nat.le_of_ble_eq_true rfl) dX6_counts_40 (fun H locs hP hD hS => ?_)
      have hP : va_P D vwCl (List.flatten [(W_M cI cC cT h0 h1 h2 h3 h4 h5 h6 h7 h8 h9 h10 hlg tk fx xl xp rmn (hdn + x_1) few mst x_5 al sv hi sn ch my kp tx rd wy)]) H := hP
      have hD : va_D A (List.flatten [(W_M cI cC cT h0 h1 h2 h3 h4 h5 h6 h7 h8 h9 h10 hlg tk fx xl xp rmn (hdn + x_1) few mst x_5 al sv hi sn ch my kp tx rd wy)]) := hD
      refine lv_aload_n hx hb dX6_counts_43 rfl (lv_at hl 0 rfl) ?_
      refine lv_iload_n hx hb dX6_counts_44 rfl (lv_at hl 1 rfl) ?_
      obtain ⟨x_10, q_12, hf⟩ := bnd hf
      have K_11 : ∀ (H : Heap) (locs : List Loc), va_P D vwCl (List.flatten [(W_M cI cC cT h0 h1 h2 h3 h4 h5 h6 h7 h8 h9 h10 hlg tk fx xl xp rmn (hdn + x_1) few mst x_5 al sv hi sn ch my kp tx rd wy)]) H → va_D A (List.flatten [(W_M cI cC cT h0 h1 h2 h3 h4 h5 h6 h7 h8 h9 h10 hlg tk fx xl xp rmn (hdn + x_1) few mst x_5 al sv hi sn ch my kp tx rd wy)]) → va_S A s.heap H locs → ∀ (ls : Array Slot), lv_has ls 4 [(0, .ref h0), (3, .int p2)] → W p l e rm_X6_counts s m ([.ref h0, .int p0, .int p1, .int p2] : List Value).toArray below meth c H locs 0 0 (MQ below (mQv D (mTY cI cC cT) A (List.flatten [(W_M cI cC cT h0 h1 h2 h3 h4 h5 h6 h7 h8 h9 h10 hlg tk fx xl xp rmn o_hdn o_few o_mst o_fal al sv hi sn ch my kp tx rd wy)])) ([.ref h0, .int p0, .int p1, .int p2] : List Value).toArray s 0 0 A) (F0 m 73 ls [.int x_10, .ref h0]) := by
        intro H locs hP hD hS ls hl
        refine va_put (D := D) (ci := 6) (v := .int x_10) (ty := .int) (C := RX6) (T := TX6) (N := 20) hx hb hts hin_X6 tyX6 tyX6_ok nmX6 hown hK hP hD hS 0 rfl rfl 16 (by decide) fl_155 (fun _ h9 => h9) rfl (by decide +kernel) rfl rfl (Nat.le_of_ble_eq_true rfl) dX6_counts_73 (fun H locs hP hD hS => ?_)
        have hP : va_P D vwCl (List.flatten [(W_M cI cC cT h0 h1 h2 h3 h4 h5 h6 h7 h8 h9 h10 hlg tk fx xl xp rmn (hdn + x_1) x_10 mst x_5 al sv hi sn ch my kp tx rd wy)]) H := hP
        have hD : va_D A (List.flatten [(W_M cI cC cT h0 h1 h2 h3 h4 h5 h6 h7 h8 h9 h10 hlg tk fx xl xp rmn (hdn + x_1) x_10 mst x_5 al sv hi sn ch my kp tx rd wy)]) := hD
        refine lv_aload_n hx hb dX6_counts_76 rfl (lv_at hl 0 rfl) ?_
        refine lv_iload_n hx hb dX6_counts_77 rfl (lv_at hl 1 rfl) ?_
        refine lv_aload_n hx hb dX6_counts_78 rfl (lv_at hl 0 rfl) ?_
        refine va_get (D := D) (ci := 6) (v := .int mst) (C := RX6) (T := TX6) (N := 20) hx hb hts hin_X6 hown hK hP 0 rfl rfl 17 (by decide) fl_158 (fun _ h9 => h9) rfl dX6_counts_79 ?_
        obtain ⟨x_16, q_18, hf⟩ := bnd hf
        have K_17 : ∀ (H : Heap) (locs : List Loc), va_P D vwCl (List.flatten [(W_M cI cC cT h0 h1 h2 h3 h4 h5 h6 h7 h8 h9 h10 hlg tk fx xl xp rmn (hdn + x_1) x_10 mst x_5 al sv hi sn ch my kp tx rd wy)]) H → va_D A (List.flatten [(W_M cI cC cT h0 h1 h2 h3 h4 h5 h6 h7 h8 h9 h10 hlg tk fx xl xp rmn (hdn + x_1) x_10 mst x_5 al sv hi sn ch my kp tx rd wy)]) → va_S A s.heap H locs → ∀ (ls : Array Slot), lv_has ls 4 [] → W p l e rm_X6_counts s m ([.ref h0, .int p0, .int p1, .int p2] : List Value).toArray below meth c H locs 0 0 (MQ below (mQv D (mTY cI cC cT) A (List.flatten [(W_M cI cC cT h0 h1 h2 h3 h4 h5 h6 h7 h8 h9 h10 hlg tk fx xl xp rmn o_hdn o_few o_mst o_fal al sv hi sn ch my kp tx rd wy)])) ([.ref h0, .int p0, .int p1, .int p2] : List Value).toArray s 0 0 A) (F0 m 93 ls [.int x_16, .ref h0]) := by
          intro H locs hP hD hS ls hl
          refine va_put (D := D) (ci := 6) (v := .int x_16) (ty := .int) (C := RX6) (T := TX6) (N := 20) hx hb hts hin_X6 tyX6 tyX6_ok nmX6 hown hK hP hD hS 0 rfl rfl 17 (by decide) fl_158 (fun _ h9 => h9) rfl (by decide +kernel) rfl rfl (Nat.le_of_ble_eq_true rfl) dX6_counts_93 (fun H locs hP hD hS => ?_)
          have hP : va_P D vwCl (List.flatten [(W_M cI cC cT h0 h1 h2 h3 h4 h5 h6 h7 h8 h9 h10 hlg tk fx xl xp rmn (hdn + x_1) x_10 x_16 x_5 al sv hi sn ch my kp tx rd wy)]) H := hP
          have hD : va_D A (List.flatten [(W_M cI cC cT h0 h1 h2 h3 h4 h5 h6 h7 h8 h9 h10 hlg tk fx xl xp rmn (hdn + x_1) x_10 x_16 x_5 al sv hi sn ch my kp tx rd wy)]) := hD
          cases hf
          exact mVret hx hb hr hlocks hP hD hK hS dX6_counts_96
        have hf := q_18
        refine lv_icmp_le (tgt := 89) hx hb dX6_counts_82 (by decide) (fun c_19 => ?_) (fun c_19 => ?_)
        · have hf := ite_t hf c_19
          refine lv_aload_n hx hb dX6_counts_89 rfl (lv_at hl 0 rfl) ?_
          refine va_get (D := D) (ci := 6) (v := .int mst) (C := RX6) (T := TX6) (N := 20) hx hb hts hin_X6 hown hK hP 0 rfl rfl 17 (by decide) fl_158 (fun _ h9 => h9) rfl dX6_counts_90 ?_
          cases hf
          exact K_17 _ _ hP hD hS _ (lv_sub hl [] rfl)
        · have hf := ite_f hf c_19
          refine lv_iload_n hx hb dX6_counts_85 rfl (lv_at hl 1 rfl) ?_
          refine lv_goto (tgt := 93) hx hb dX6_counts_86 (by decide) ?_
          cases hf
          exact K_17 _ _ hP hD hS _ (lv_sub hl [] rfl)
      have hf := q_12
      refine lv_if_eq (tgt := 69) hx hb dX6_counts_45 (by decide) (fun c_13 => ?_) (fun c_13 => ?_)
      · have hf := ite_t hf c_13
        refine lv_aload_n hx hb dX6_counts_69 rfl (lv_at hl 0 rfl) ?_
        refine va_get (D := D) (ci := 6) (v := .int few) (C := RX6) (T := TX6) (N := 20) hx hb hts hin_X6 hown hK hP 0 rfl rfl 16 (by decide) fl_155 (fun _ h9 => h9) rfl dX6_counts_70 ?_
        cases hf
        exact K_11 _ _ hP hD hS _ (lv_sub hl [0, 2] rfl)
      · have hf := ite_f hf c_13
        refine lv_aload_n hx hb dX6_counts_48 rfl (lv_at hl 0 rfl) ?_
        refine va_get (D := D) (ci := 6) (v := .int few) (C := RX6) (T := TX6) (N := 20) hx hb hts hin_X6 hown hK hP 0 rfl rfl 16 (by decide) fl_155 (fun _ h9 => h9) rfl dX6_counts_49 ?_
        refine lv_bipush (v := -5) hx hb dX6_counts_52 (by decide) ?_
        refine lv_icmp_eq (tgt := 65) hx hb dX6_counts_54 (by decide) (fun c_14 => ?_) (fun c_14 => ?_)
        · have hf := ite_t hf c_14
          refine lv_iload_n hx hb dX6_counts_65 rfl (lv_at hl 2 rfl) ?_
          refine lv_goto (tgt := 73) hx hb dX6_counts_66 (by decide) ?_
          cases hf
          exact K_11 _ _ hP hD hS _ (lv_sub hl [0, 2] rfl)
        · have hf := ite_f hf c_14
          refine lv_iload_n hx hb dX6_counts_57 rfl (lv_at hl 2 rfl) ?_
          refine lv_aload_n hx hb dX6_counts_58 rfl (lv_at hl 0 rfl) ?_
          refine va_get (D := D) (ci := 6) (v := .int few) (C := RX6) (T := TX6) (N := 20) hx hb hts hin_X6 hown hK hP 0 rfl rfl 16 (by decide) fl_155 (fun _ h9 => h9) rfl dX6_counts_59 ?_
          refine lv_icmp_ge (tgt := 69) hx hb dX6_counts_62 (by decide) (fun c_15 => ?_) (fun c_15 => ?_)
          · have hf := ite_t hf c_15
            refine lv_aload_n hx hb dX6_counts_69 rfl (lv_at hl 0 rfl) ?_
            refine va_get (D := D) (ci := 6) (v := .int few) (C := RX6) (T := TX6) (N := 20) hx hb hts hin_X6 hown hK hP 0 rfl rfl 16 (by decide) fl_155 (fun _ h9 => h9) rfl dX6_counts_70 ?_
            cases hf
            exact K_11 _ _ hP hD hS _ (lv_sub hl [0, 2] rfl)
          · have hf := ite_f hf c_15
            refine lv_iload_n hx hb dX6_counts_65 rfl (lv_at hl 2 rfl) ?_
            refine lv_goto (tgt := 73) hx hb dX6_counts_66 (by decide) ?_
            cases hf
            exact K_11 _ _ hP hD hS _ (lv_sub hl [0, 2] rfl)
    have hf := q_7
    refine lv_if_ne (tgt := 32) hx hb dX6_counts_20 (by decide) (fun c_8 => ?_) (fun c_8 => ?_)
    · have hf := ite_f hf c_8
      refine lv_aload_n hx hb dX6_counts_32 rfl (lv_at hl 0 rfl) ?_
      refine va_get (D := D) (ci := 6) (v := .int fal) (C := RX6) (T := TX6) (N := 20) hx hb hts hin_X6 hown hK hP 0 rfl rfl 18 (by decide) fl_161 (fun _ h9 => h9) rfl dX6_counts_33 ?_
      refine lv_goto (tgt := 40) hx hb dX6_counts_36 (by decide) ?_
      cases hf
      exact K_6 _ _ hP hD hS _ (lv_sub hl [0, 2, 3] rfl)
    · have hf := ite_t hf c_8
      refine lv_aload_n hx hb dX6_counts_23 rfl (lv_at hl 0 rfl) ?_
      refine va_get (D := D) (ci := 6) (v := .int fal) (C := RX6) (T := TX6) (N := 20) hx hb hts hin_X6 hown hK hP 0 rfl rfl 18 (by decide) fl_161 (fun _ h9 => h9) rfl dX6_counts_24 ?_
      refine lv_bipush (v := -5) hx hb dX6_counts_27 (by decide) ?_
      refine lv_icmp_eq (tgt := 39) hx hb dX6_counts_29 (by decide) (fun c_9 => ?_) (fun c_9 => ?_)
      · have hf := ite_t hf c_9
        refine lv_iload_n hx hb dX6_counts_39 rfl (lv_at hl 1 rfl) ?_
        cases hf
        exact K_6 _ _ hP hD hS _ (lv_sub hl [0, 2, 3] rfl)
      · have hf := ite_f hf c_9
        refine lv_aload_n hx hb dX6_counts_32 rfl (lv_at hl 0 rfl) ?_
        refine va_get (D := D) (ci := 6) (v := .int fal) (C := RX6) (T := TX6) (N := 20) hx hb hts hin_X6 hown hK hP 0 rfl rfl 18 (by decide) fl_161 (fun _ h9 => h9) rfl dX6_counts_33 ?_
        refine lv_goto (tgt := 40) hx hb dX6_counts_36 (by decide) ?_
        cases hf
        exact K_6 _ _ hP hD hS _ (lv_sub hl [0, 2, 3] rfl)
  have hf := q_3
  refine lv_if_eq (tgt := 13) hx hb dX6_counts_6 (by decide) (fun c_4 => ?_) (fun c_4 => ?_)
  · have hf := ite_t hf c_4
    refine lv_iconst (v := 0) hx hb dX6_counts_13 (by decide) ?_
    cases hf
    exact K_2 _ _ hP hD hS _ (lv_sub hl [0, 1, 2, 3] rfl)
  · have hf := ite_f hf c_4
    refine lv_iconst (v := 1) hx hb dX6_counts_9 (by decide) ?_
    refine lv_goto (tgt := 14) hx hb dX6_counts_10 (by decide) ?_
    cases hf
    exact K_2 _ _ hP hD hS _ (lv_sub hl [0, 1, 2, 3] rfl)
abbrev rm_X6_asksValue : Room := { frames := 5, cells := 0, slots := 0, locals := 111 }
set_option maxHeartbeats 4000000 in
set_option maxRecDepth 100000 in
theorem c_X6_asksValue (l : Launch) (D : va_G) (cI cC cT : ClassId) (h0 h1 h2 h3 h4 h5 h6 h7 h8 h9 h10 : Nat) (hlg : Int32) (tk : Int32) (fx : Int32) (xl : Int32) (xp : Int32) (rmn : Int32) (hdn : Int32) (few : Int32) (mst : Int32) (fal : Int32) (al : Nat → Int32) (sv : Nat → Int32) (hi : Nat → Int32) (sn : Nat → Int32) (ch : Nat → Int32) (my : Nat → Int32) (kp : Nat → Int32) (tx : Nat → Int32) (rd : Nat → Int32) (wy : Nat → Int32) (sz : Nat) (p0 : Int32) (o_hdn : Int32) (o_few : Int32) (o_mst : Int32) (o_fal : Int32) (o_ch : Nat → Int32) (o_my : Nat → Int32) (o_kp : Nat → Int32) (hf : f_X6_asksValue fx al ch my kp p0 = some ((o_hdn, o_few, o_mst, o_fal, o_ch, o_my, o_kp))) : Met l yX6_asksValue wsX6_asksValue rm_X6_asksValue (mP D (mTY cI cC cT) [.ref h0, .int p0] (List.flatten [(W_M cI cC cT h0 h1 h2 h3 h4 h5 h6 h7 h8 h9 h10 hlg tk fx xl xp rmn hdn few mst fal al sv hi sn ch my kp tx rd wy)]) sz) (mQv D (mTY cI cC cT) (va_A (List.flatten [(W_M cI cC cT h0 h1 h2 h3 h4 h5 h6 h7 h8 h9 h10 hlg tk fx xl xp rmn hdn few mst fal al sv hi sn ch my kp tx rd wy)]) sz) (List.flatten [(W_M cI cC cT h0 h1 h2 h3 h4 h5 h6 h7 h8 h9 h10 hlg tk fx xl xp rmn o_hdn o_few o_mst o_fal al sv hi sn o_ch o_my o_kp tx rd wy)])) 0 0 (va_A (List.flatten [(W_M cI cC cT h0 h1 h2 h3 h4 h5 h6 h7 h8 h9 h10 hlg tk fx xl xp rmn hdn few mst fal al sv hi sn ch my kp tx rd wy)]) sz) := by
  refine mEnt (cc := cX6_asksValue) (maxL := 5) (ret := none) (own := RX6) (Qq := fun A => mQv D (mTY cI cC cT) A (List.flatten [(W_M cI cC cT h0 h1 h2 h3 h4 h5 h6 h7 h8 h9 h10 hlg tk fx xl xp rmn o_hdn o_few o_mst o_fal al sv hi sn o_ch o_my o_kp tx rd wy)])) (by decide) rfl rfl (Nat.le_of_ble_eq_true rfl) ?_
  intro p e s m below meth c A ls H locs hx hb hr hml hlocks hown hts hN hA hP hK hD hS hl
  have hin_X6 : ∀ w ∈ u_ws RX6 TX6 20, w ∈ wsX6_asksValue := by decide +kernel
  have fl_155 := hts (.fieldLink RX6 155 "SureMendingsModel" "fewest" "I") (by decide +kernel)
  have hl : lv_has ls 5 [(0, .ref h0), (1, .int p0)] := hl
  unfold f_X6_asksValue at hf
  refine lv_aload_n hx hb dX6_asksValue_0 rfl (lv_at hl 0 rfl) ?_
  obtain ⟨⟨hdn_1, few_2, mst_3, fal_4, ch_5, my_6⟩, q_7, hf⟩ := bnd hf
  refine mGovS (segs := [(W_M cI cC cT h0 h1 h2 h3 h4 h5 h6 h7 h8 h9 h10 hlg tk fx xl xp rmn hdn few mst fal al sv hi sn ch my kp tx rd wy)]) (wcs := [(W_M cI cC cT h0 h1 h2 h3 h4 h5 h6 h7 h8 h9 h10 hlg tk fx xl xp rmn hdn few mst fal al sv hi sn ch my kp tx rd wy)]) (w1s := [(W_M cI cC cT h0 h1 h2 h3 h4 h5 h6 h7 h8 h9 h10 hlg tk fx xl xp rmn hdn_1 few_2 mst_3 fal_4 al sv hi sn ch_5 my_6 kp tx rd wy)]) (w2s := [(W_M cI cC cT h0 h1 h2 h3 h4 h5 h6 h7 h8 h9 h10 hlg tk fx xl xp rmn hdn_1 few_2 mst_3 fal_4 al sv hi sn ch_5 my_6 kp tx rd wy)]) rfl rfl (va_runV (As := []) (rest := []) ⟨hx, hb, hml, hown, hts⟩ (c_X6_begins l D cI cC cT h0 h1 h2 h3 h4 h5 h6 h7 h8 h9 h10 hlg tk fx xl xp rmn hdn few mst fal al sv hi sn ch my kp tx rd wy H.size hdn_1 few_2 mst_3 fal_4 ch_5 my_6 q_7) (cwV 0 hts gX6_asksValue_X6_begins rfl rfl rfl (by decide +kernel) ⟨Nat.le_of_ble_eq_true rfl, Nat.le_of_ble_eq_true rfl⟩) (mPreVS [(W_M cI cC cT h0 h1 h2 h3 h4 h5 h6 h7 h8 h9 h10 hlg tk fx xl xp rmn hdn few mst fal al sv hi sn ch my kp tx rd wy)] rfl hP hD hK hN [0] rfl (by decide) (va_recv hK (sP hP 0 rfl) (ci := 6) (q0 := 0) rfl rfl)) rfl rfl hl.1 rfl (lv_room (Nat.le_of_ble_eq_true rfl)) dX6_asksValue_1 ⟨Nat.zero_le _, Nat.zero_le _⟩) hP hD hS hA [0] rfl rfl rfl rfl (fun H locs hP hD hS => ?_)
  refine lv_bipush (v := 10) hx hb dX6_asksValue_4 (by decide) ?_
  refine lv_istore_n (lv' := [(2, .int 10), (0, .ref h0), (1, .int p0)]) hx hb dX6_asksValue_6 rfl hl (by decide) rfl (fun ls hl => ?_)
  refine lv_iconst (v := 0) hx hb dX6_asksValue_7 (by decide) ?_
  refine lv_istore_n (lv' := [(3, .int 0), (2, .int 10), (0, .ref h0), (1, .int p0)]) hx hb dX6_asksValue_8 rfl hl (by decide) rfl (fun ls hl => ?_)
  have LP_15 : ∀ (n_15 : Nat) (v2_8 : Int32) (v3_9 : Int32) (hdn_10 : Int32) (few_11 : Int32) (mst_12 : Int32) (fal_13 : Int32) (kp_14 : Nat → Int32), iter n_15 (b_X6_asksValue_1 al p0 my_6 ch_5) ((v2_8, v3_9, hdn_10, few_11, mst_12, fal_13, kp_14)) = some ((o_hdn, o_few, o_mst, o_fal, o_ch, o_my, o_kp)) → ∀ (H : Heap) (locs : List Loc), va_P D vwCl (List.flatten [(W_M cI cC cT h0 h1 h2 h3 h4 h5 h6 h7 h8 h9 h10 hlg tk fx xl xp rmn hdn_10 few_11 mst_12 fal_13 al sv hi sn ch_5 my_6 kp_14 tx rd wy)]) H → va_D A (List.flatten [(W_M cI cC cT h0 h1 h2 h3 h4 h5 h6 h7 h8 h9 h10 hlg tk fx xl xp rmn hdn_10 few_11 mst_12 fal_13 al sv hi sn ch_5 my_6 kp_14 tx rd wy)]) → va_S A s.heap H locs → ∀ (ls : Array Slot), lv_has ls 5 [(0, .ref h0), (1, .int p0), (2, .int v2_8), (3, .int v3_9)] → W p l e rm_X6_asksValue s m ([.ref h0, .int p0] : List Value).toArray below meth c H locs 0 0 (MQ below (mQv D (mTY cI cC cT) A (List.flatten [(W_M cI cC cT h0 h1 h2 h3 h4 h5 h6 h7 h8 h9 h10 hlg tk fx xl xp rmn o_hdn o_few o_mst o_fal al sv hi sn o_ch o_my o_kp tx rd wy)])) ([.ref h0, .int p0] : List Value).toArray s 0 0 A) (F0 m 9 ls []) := by
    intro n_15
    induction n_15 with
    | zero => intro v2_8 v3_9 hdn_10 few_11 mst_12 fal_13 kp_14 hf; exact (iter_zero hf).elim
    | succ n_15 ih_15 =>
      intro v2_8 v3_9 hdn_10 few_11 mst_12 fal_13 kp_14 hf H locs hP hD hS ls hl
      obtain ⟨o_15, hf, ho_15⟩ := iter_succ hf
      dsimp only [b_X6_asksValue_1] at hf
      refine lv_iload_n hx hb dX6_asksValue_9 rfl (lv_at hl 3 rfl) ?_
      refine lv_aload_n hx hb dX6_asksValue_10 rfl (lv_at hl 0 rfl) ?_
      obtain ⟨r_16, q_17, hf⟩ := bnd hf
      refine mGoiS (segs := [(W_M cI cC cT h0 h1 h2 h3 h4 h5 h6 h7 h8 h9 h10 hlg tk fx xl xp rmn hdn_10 few_11 mst_12 fal_13 al sv hi sn ch_5 my_6 kp_14 tx rd wy)]) (wcs := [(W_M cI cC cT h0 h1 h2 h3 h4 h5 h6 h7 h8 h9 h10 hlg tk fx xl xp rmn hdn_10 few_11 mst_12 fal_13 al sv hi sn ch_5 my_6 kp_14 tx rd wy)]) (w1s := [(W_M cI cC cT h0 h1 h2 h3 h4 h5 h6 h7 h8 h9 h10 hlg tk fx xl xp rmn hdn_10 few_11 mst_12 fal_13 al sv hi sn ch_5 my_6 kp_14 tx rd wy)]) (w2s := [(W_M cI cC cT h0 h1 h2 h3 h4 h5 h6 h7 h8 h9 h10 hlg tk fx xl xp rmn hdn_10 few_11 mst_12 fal_13 al sv hi sn ch_5 my_6 kp_14 tx rd wy)]) rfl rfl (va_runV (As := []) (rest := [.int v3_9]) ⟨hx, hb, hml, hown, hts⟩ (c_X6_mendings l D cI cC cT h0 h1 h2 h3 h4 h5 h6 h7 h8 h9 h10 hlg tk fx xl xp rmn hdn_10 few_11 mst_12 fal_13 al sv hi sn ch_5 my_6 kp_14 tx rd wy H.size r_16 q_17) (cwV 0 hts gX6_asksValue_X6_mendings rfl rfl rfl (by decide +kernel) ⟨Nat.le_of_ble_eq_true rfl, Nat.le_of_ble_eq_true rfl⟩) (mPreVS [(W_M cI cC cT h0 h1 h2 h3 h4 h5 h6 h7 h8 h9 h10 hlg tk fx xl xp rmn hdn_10 few_11 mst_12 fal_13 al sv hi sn ch_5 my_6 kp_14 tx rd wy)] rfl hP hD hK hN [0] rfl (by decide) (va_recv hK (sP hP 0 rfl) (ci := 6) (q0 := 0) rfl rfl)) rfl rfl hl.1 rfl (lv_room (Nat.le_of_ble_eq_true rfl)) dX6_asksValue_11 ⟨Nat.zero_le _, Nat.zero_le _⟩) hP hD hS hA [0] rfl rfl rfl rfl (fun H locs hP hD hS => ?_)
      refine lv_icmp_ge (tgt := 65) hx hb dX6_asksValue_14 (by decide) (fun c_18 => ?_) (fun c_18 => ?_)
      · have hf := ite_t hf c_18
        refine lv_aload_n hx hb dX6_asksValue_65 rfl (lv_at hl 0 rfl) ?_
        refine lv_iload_n hx hb dX6_asksValue_66 rfl (lv_at hl 2 rfl) ?_
        refine va_put (D := D) (ci := 6) (v := .int v2_8) (ty := .int) (C := RX6) (T := TX6) (N := 20) hx hb hts hin_X6 tyX6 tyX6_ok nmX6 hown hK hP hD hS 0 rfl rfl 16 (by decide) fl_155 (fun _ h9 => h9) rfl (by decide +kernel) rfl rfl (Nat.le_of_ble_eq_true rfl) dX6_asksValue_67 (fun H locs hP hD hS => ?_)
        have hP : va_P D vwCl (List.flatten [(W_M cI cC cT h0 h1 h2 h3 h4 h5 h6 h7 h8 h9 h10 hlg tk fx xl xp rmn hdn_10 v2_8 mst_12 fal_13 al sv hi sn ch_5 my_6 kp_14 tx rd wy)]) H := hP
        have hD : va_D A (List.flatten [(W_M cI cC cT h0 h1 h2 h3 h4 h5 h6 h7 h8 h9 h10 hlg tk fx xl xp rmn hdn_10 v2_8 mst_12 fal_13 al sv hi sn ch_5 my_6 kp_14 tx rd wy)]) := hD
        cases hf
        have hf := ho_15.2 _ rfl
        cases hf
        exact mVret hx hb hr hlocks hP hD hK hS dX6_asksValue_70
      · have hf := ite_f hf c_18
        refine lv_aload_n hx hb dX6_asksValue_17 rfl (lv_at hl 0 rfl) ?_
        refine lv_iload_n hx hb dX6_asksValue_18 rfl (lv_at hl 3 rfl) ?_
        obtain ⟨kp_19, q_20, hf⟩ := bnd hf
        refine mGovS (segs := [(W_M cI cC cT h0 h1 h2 h3 h4 h5 h6 h7 h8 h9 h10 hlg tk fx xl xp rmn hdn_10 few_11 mst_12 fal_13 al sv hi sn ch_5 my_6 kp_14 tx rd wy)]) (wcs := [(W_M cI cC cT h0 h1 h2 h3 h4 h5 h6 h7 h8 h9 h10 hlg tk fx xl xp rmn hdn_10 few_11 mst_12 fal_13 al sv hi sn ch_5 my_6 kp_14 tx rd wy)]) (w1s := [(W_M cI cC cT h0 h1 h2 h3 h4 h5 h6 h7 h8 h9 h10 hlg tk fx xl xp rmn hdn_10 few_11 mst_12 fal_13 al sv hi sn ch_5 my_6 kp_19 tx rd wy)]) (w2s := [(W_M cI cC cT h0 h1 h2 h3 h4 h5 h6 h7 h8 h9 h10 hlg tk fx xl xp rmn hdn_10 few_11 mst_12 fal_13 al sv hi sn ch_5 my_6 kp_19 tx rd wy)]) rfl rfl (va_runV (As := [.int v3_9]) (rest := []) ⟨hx, hb, hml, hown, hts⟩ (c_X6_takes l D cI cC cT h0 h1 h2 h3 h4 h5 h6 h7 h8 h9 h10 hlg tk fx xl xp rmn hdn_10 few_11 mst_12 fal_13 al sv hi sn ch_5 my_6 kp_14 tx rd wy H.size v3_9 kp_19 q_20) (cwV 1 hts gX6_asksValue_X6_takes rfl rfl rfl (by decide +kernel) ⟨Nat.le_of_ble_eq_true rfl, Nat.le_of_ble_eq_true rfl⟩) (mPreVS [(W_M cI cC cT h0 h1 h2 h3 h4 h5 h6 h7 h8 h9 h10 hlg tk fx xl xp rmn hdn_10 few_11 mst_12 fal_13 al sv hi sn ch_5 my_6 kp_14 tx rd wy)] rfl hP hD hK hN [0] rfl (by decide) (va_recv hK (sP hP 0 rfl) (ci := 6) (q0 := 0) rfl rfl)) rfl rfl hl.1 rfl (lv_room (Nat.le_of_ble_eq_true rfl)) dX6_asksValue_19 ⟨Nat.zero_le _, Nat.zero_le _⟩) hP hD hS hA [0] rfl rfl rfl rfl (fun H locs hP hD hS => ?_)
        refine lv_aload_n hx hb dX6_asksValue_22 rfl (lv_at hl 0 rfl) ?_
        refine lv_iload_n hx hb dX6_asksValue_23 rfl (lv_at hl 1 rfl) ?_
        obtain ⟨r_21, q_22, hf⟩ := bnd hf
        refine mGoiS (segs := [(W_M cI cC cT h0 h1 h2 h3 h4 h5 h6 h7 h8 h9 h10 hlg tk fx xl xp rmn hdn_10 few_11 mst_12 fal_13 al sv hi sn ch_5 my_6 kp_19 tx rd wy)]) (wcs := [(W_M cI cC cT h0 h1 h2 h3 h4 h5 h6 h7 h8 h9 h10 hlg tk fx xl xp rmn hdn_10 few_11 mst_12 fal_13 al sv hi sn ch_5 my_6 kp_19 tx rd wy)]) (w1s := [(W_M cI cC cT h0 h1 h2 h3 h4 h5 h6 h7 h8 h9 h10 hlg tk fx xl xp rmn hdn_10 few_11 mst_12 fal_13 al sv hi sn ch_5 my_6 kp_19 tx rd wy)]) (w2s := [(W_M cI cC cT h0 h1 h2 h3 h4 h5 h6 h7 h8 h9 h10 hlg tk fx xl xp rmn hdn_10 few_11 mst_12 fal_13 al sv hi sn ch_5 my_6 kp_19 tx rd wy)]) rfl rfl (va_runV (As := [.int p0]) (rest := []) ⟨hx, hb, hml, hown, hts⟩ (c_X6_kept l D cI cC cT h0 h1 h2 h3 h4 h5 h6 h7 h8 h9 h10 hlg tk fx xl xp rmn hdn_10 few_11 mst_12 fal_13 al sv hi sn ch_5 my_6 kp_19 tx rd wy H.size p0 r_21 q_22) (cwV 1 hts gX6_asksValue_X6_kept rfl rfl rfl (by decide +kernel) ⟨Nat.le_of_ble_eq_true rfl, Nat.le_of_ble_eq_true rfl⟩) (mPreVS [(W_M cI cC cT h0 h1 h2 h3 h4 h5 h6 h7 h8 h9 h10 hlg tk fx xl xp rmn hdn_10 few_11 mst_12 fal_13 al sv hi sn ch_5 my_6 kp_19 tx rd wy)] rfl hP hD hK hN [0] rfl (by decide) (va_recv hK (sP hP 0 rfl) (ci := 6) (q0 := 0) rfl rfl)) rfl rfl hl.1 rfl (lv_room (Nat.le_of_ble_eq_true rfl)) dX6_asksValue_24 ⟨Nat.zero_le _, Nat.zero_le _⟩) hP hD hS hA [0] rfl rfl rfl rfl (fun H locs hP hD hS => ?_)
        refine lv_istore (lv' := [(4, .int r_21), (0, .ref h0), (1, .int p0), (2, .int v2_8), (3, .int v3_9)]) hx hb dX6_asksValue_27 hl (by decide) rfl (fun ls hl => ?_)
        refine lv_aload_n hx hb dX6_asksValue_29 rfl (lv_at hl 1 rfl) ?_
        refine lv_iload_n hx hb dX6_asksValue_30 rfl (lv_at hl 4 rfl) ?_
        refine lv_iload hx hb dX6_asksValue_31 (lv_at hl 0 rfl) ?_
        obtain ⟨x_23, q_25, hf⟩ := bnd hf
        have K_24 : ∀ (H : Heap) (locs : List Loc), va_P D vwCl (List.flatten [(W_M cI cC cT h0 h1 h2 h3 h4 h5 h6 h7 h8 h9 h10 hlg tk fx xl xp rmn hdn_10 few_11 mst_12 fal_13 al sv hi sn ch_5 my_6 kp_19 tx rd wy)]) H → va_D A (List.flatten [(W_M cI cC cT h0 h1 h2 h3 h4 h5 h6 h7 h8 h9 h10 hlg tk fx xl xp rmn hdn_10 few_11 mst_12 fal_13 al sv hi sn ch_5 my_6 kp_19 tx rd wy)]) → va_S A s.heap H locs → ∀ (ls : Array Slot), lv_has ls 5 [(0, .ref h0), (1, .int p0), (2, .int v2_8), (3, .int v3_9), (4, .int r_21)] → W p l e rm_X6_asksValue s m ([.ref h0, .int p0] : List Value).toArray below meth c H locs 0 0 (MQ below (mQv D (mTY cI cC cT) A (List.flatten [(W_M cI cC cT h0 h1 h2 h3 h4 h5 h6 h7 h8 h9 h10 hlg tk fx xl xp rmn o_hdn o_few o_mst o_fal al sv hi sn o_ch o_my o_kp tx rd wy)])) ([.ref h0, .int p0] : List Value).toArray s 0 0 A) (F0 m 41 ls [.int x_23, .int v3_9, .ref h0]) := by
          intro H locs hP hD hS ls hl
          refine lv_iload hx hb dX6_asksValue_41 (lv_at hl 4 rfl) ?_
          obtain ⟨⟨hdn_27, few_28, mst_29, fal_30⟩, q_31, hf⟩ := bnd hf
          refine mGovS (segs := [(W_M cI cC cT h0 h1 h2 h3 h4 h5 h6 h7 h8 h9 h10 hlg tk fx xl xp rmn hdn_10 few_11 mst_12 fal_13 al sv hi sn ch_5 my_6 kp_19 tx rd wy)]) (wcs := [(W_M cI cC cT h0 h1 h2 h3 h4 h5 h6 h7 h8 h9 h10 hlg tk fx xl xp rmn hdn_10 few_11 mst_12 fal_13 al sv hi sn ch_5 my_6 kp_19 tx rd wy)]) (w1s := [(W_M cI cC cT h0 h1 h2 h3 h4 h5 h6 h7 h8 h9 h10 hlg tk fx xl xp rmn hdn_27 few_28 mst_29 fal_30 al sv hi sn ch_5 my_6 kp_19 tx rd wy)]) (w2s := [(W_M cI cC cT h0 h1 h2 h3 h4 h5 h6 h7 h8 h9 h10 hlg tk fx xl xp rmn hdn_27 few_28 mst_29 fal_30 al sv hi sn ch_5 my_6 kp_19 tx rd wy)]) rfl rfl (va_runV (As := [.int v3_9, .int x_23, .int r_21]) (rest := []) ⟨hx, hb, hml, hown, hts⟩ (c_X6_counts l D cI cC cT h0 h1 h2 h3 h4 h5 h6 h7 h8 h9 h10 hlg tk fx xl xp rmn hdn_10 few_11 mst_12 fal_13 al sv hi sn ch_5 my_6 kp_19 tx rd wy H.size v3_9 x_23 r_21 hdn_27 few_28 mst_29 fal_30 q_31) (cwV 3 hts gX6_asksValue_X6_counts rfl rfl rfl (by decide +kernel) ⟨Nat.le_of_ble_eq_true rfl, Nat.le_of_ble_eq_true rfl⟩) (mPreVS [(W_M cI cC cT h0 h1 h2 h3 h4 h5 h6 h7 h8 h9 h10 hlg tk fx xl xp rmn hdn_10 few_11 mst_12 fal_13 al sv hi sn ch_5 my_6 kp_19 tx rd wy)] rfl hP hD hK hN [0] rfl (by decide) (va_recv hK (sP hP 0 rfl) (ci := 6) (q0 := 0) rfl rfl)) rfl rfl hl.1 rfl (lv_room (Nat.le_of_ble_eq_true rfl)) dX6_asksValue_43 ⟨Nat.zero_le _, Nat.zero_le _⟩) hP hD hS hA [0] rfl rfl rfl rfl (fun H locs hP hD hS => ?_)
          refine lv_iload hx hb dX6_asksValue_46 (lv_at hl 4 rfl) ?_
          refine lv_iload_n hx hb dX6_asksValue_48 rfl (lv_at hl 2 rfl) ?_
          obtain ⟨x_32, q_34, hf⟩ := bnd hf
          have K_33 : ∀ (H : Heap) (locs : List Loc), va_P D vwCl (List.flatten [(W_M cI cC cT h0 h1 h2 h3 h4 h5 h6 h7 h8 h9 h10 hlg tk fx xl xp rmn hdn_27 few_28 mst_29 fal_30 al sv hi sn ch_5 my_6 kp_19 tx rd wy)]) H → va_D A (List.flatten [(W_M cI cC cT h0 h1 h2 h3 h4 h5 h6 h7 h8 h9 h10 hlg tk fx xl xp rmn hdn_27 few_28 mst_29 fal_30 al sv hi sn ch_5 my_6 kp_19 tx rd wy)]) → va_S A s.heap H locs → ∀ (ls : Array Slot), lv_has ls 5 [(0, .ref h0), (1, .int p0), (3, .int v3_9)] → W p l e rm_X6_asksValue s m ([.ref h0, .int p0] : List Value).toArray below meth c H locs 0 0 (MQ below (mQv D (mTY cI cC cT) A (List.flatten [(W_M cI cC cT h0 h1 h2 h3 h4 h5 h6 h7 h8 h9 h10 hlg tk fx xl xp rmn o_hdn o_few o_mst o_fal al sv hi sn o_ch o_my o_kp tx rd wy)])) ([.ref h0, .int p0] : List Value).toArray s 0 0 A) (F0 m 58 ls [.int x_32]) := by
            intro H locs hP hD hS ls hl
            refine lv_istore_n (lv' := [(2, .int x_32), (0, .ref h0), (1, .int p0), (3, .int v3_9)]) hx hb dX6_asksValue_58 rfl hl (by decide) rfl (fun ls hl => ?_)
            refine lv_iinc (v := v3_9 + 1) (lv' := [(3, .int (v3_9 + 1)), (2, .int x_32), (0, .ref h0), (1, .int p0)]) hx hb dX6_asksValue_59 hl (k := 3) rfl rfl (by decide) rfl (fun ls hl => ?_)
            refine lv_goto (tgt := 9) hx hb dX6_asksValue_62 (by decide) ?_
            cases hf
            have hf := ho_15.1 _ rfl
            exact ih_15 _ _ _ _ _ _ _ hf _ _ hP hD hS _ (lv_sub hl [2, 3, 1, 0] rfl)
          have hf := q_34
          refine lv_icmp_ge (tgt := 57) hx hb dX6_asksValue_49 (by decide) (fun c_35 => ?_) (fun c_35 => ?_)
          · have hf := ite_t hf c_35
            refine lv_iload_n hx hb dX6_asksValue_57 rfl (lv_at hl 2 rfl) ?_
            cases hf
            exact K_33 _ _ hP hD hS _ (lv_sub hl [0, 1, 3] rfl)
          · have hf := ite_f hf c_35
            refine lv_iload hx hb dX6_asksValue_52 (lv_at hl 4 rfl) ?_
            refine lv_goto (tgt := 58) hx hb dX6_asksValue_54 (by decide) ?_
            cases hf
            exact K_33 _ _ hP hD hS _ (lv_sub hl [0, 1, 3] rfl)
        have hf := q_25
        refine lv_if_le (tgt := 40) hx hb dX6_asksValue_33 (by decide) (fun c_26 => ?_) (fun c_26 => ?_)
        · have hf := ite_t hf c_26
          refine lv_iconst (v := 0) hx hb dX6_asksValue_40 (by decide) ?_
          cases hf
          exact K_24 _ _ hP hD hS _ (lv_sub hl [1, 2, 3, 4, 0] rfl)
        · have hf := ite_f hf c_26
          refine lv_iconst (v := 1) hx hb dX6_asksValue_36 (by decide) ?_
          refine lv_goto (tgt := 41) hx hb dX6_asksValue_37 (by decide) ?_
          cases hf
          exact K_24 _ _ hP hD hS _ (lv_sub hl [1, 2, 3, 4, 0] rfl)
  exact LP_15 _ _ _ _ _ _ _ _ hf _ _ hP hD hS _ (lv_sub hl [2, 3, 1, 0] rfl)
abbrev rm_X6_wayLong : Room := { frames := 1, cells := 0, slots := 0, locals := 22 }
set_option maxHeartbeats 4000000 in
set_option maxRecDepth 100000 in
theorem c_X6_wayLong (l : Launch) (D : va_G) (cI cC cT : ClassId) (h0 h1 h2 h3 h4 h5 h6 h7 h8 h9 h10 : Nat) (hlg : Int32) (tk : Int32) (fx : Int32) (xl : Int32) (xp : Int32) (rmn : Int32) (hdn : Int32) (few : Int32) (mst : Int32) (fal : Int32) (al : Nat → Int32) (sv : Nat → Int32) (hi : Nat → Int32) (sn : Nat → Int32) (ch : Nat → Int32) (my : Nat → Int32) (kp : Nat → Int32) (tx : Nat → Int32) (rd : Nat → Int32) (wy : Nat → Int32) (sz : Nat) (p0 : Int32) (p1 : Int32) (out : Int32) (hf : f_X6_wayLong al kp p0 p1 = some out) : Met l yX6_wayLong wsX6_wayLong rm_X6_wayLong (mP D (mTY cI cC cT) [.ref h0, .int p0, .int p1] (List.flatten [(W_M cI cC cT h0 h1 h2 h3 h4 h5 h6 h7 h8 h9 h10 hlg tk fx xl xp rmn hdn few mst fal al sv hi sn ch my kp tx rd wy)]) sz) (mQi D (mTY cI cC cT) out (va_A (List.flatten [(W_M cI cC cT h0 h1 h2 h3 h4 h5 h6 h7 h8 h9 h10 hlg tk fx xl xp rmn hdn few mst fal al sv hi sn ch my kp tx rd wy)]) sz) (List.flatten [(W_M cI cC cT h0 h1 h2 h3 h4 h5 h6 h7 h8 h9 h10 hlg tk fx xl xp rmn hdn few mst fal al sv hi sn ch my kp tx rd wy)])) 0 0 (va_A (List.flatten [(W_M cI cC cT h0 h1 h2 h3 h4 h5 h6 h7 h8 h9 h10 hlg tk fx xl xp rmn hdn few mst fal al sv hi sn ch my kp tx rd wy)]) sz) := by
  refine mEnt (cc := cX6_wayLong) (maxL := 5) (ret := (some .int)) (own := RX6) (Qq := fun A => mQi D (mTY cI cC cT) out A (List.flatten [(W_M cI cC cT h0 h1 h2 h3 h4 h5 h6 h7 h8 h9 h10 hlg tk fx xl xp rmn hdn few mst fal al sv hi sn ch my kp tx rd wy)])) (by decide) rfl rfl (Nat.le_of_ble_eq_true rfl) ?_
  intro p e s m below meth c A ls H locs hx hb hr hml hlocks hown hts hN hA hP hK hD hS hl
  have hin_X6 : ∀ w ∈ u_ws RX6 TX6 20, w ∈ wsX6_wayLong := by decide +kernel
  have fl_28 := hts (.fieldLink RX6 28 "SureMendingsModel" "kept" "[I") (by decide +kernel)
  have hl : lv_has ls 5 [(0, .ref h0), (1, .int p0), (2, .int p1)] := hl
  unfold f_X6_wayLong at hf
  refine lv_iload_n hx hb dX6_wayLong_0 rfl (lv_at hl 1 rfl) ?_
  refine lv_istore_n (lv' := [(3, .int p0), (0, .ref h0), (1, .int p0), (2, .int p1)]) hx hb dX6_wayLong_1 rfl hl (by decide) rfl (fun ls hl => ?_)
  refine lv_iconst (v := 0) hx hb dX6_wayLong_2 (by decide) ?_
  refine lv_istore (lv' := [(4, .int 0), (3, .int p0), (0, .ref h0), (1, .int p0), (2, .int p1)]) hx hb dX6_wayLong_3 hl (by decide) rfl (fun ls hl => ?_)
  have LP_3 : ∀ (n_3 : Nat) (v3_1 : Int32) (v4_2 : Int32), iter n_3 (b_X6_wayLong_1 al kp p1) ((v3_1, v4_2)) = some out → ∀ (H : Heap) (locs : List Loc), va_P D vwCl (List.flatten [(W_M cI cC cT h0 h1 h2 h3 h4 h5 h6 h7 h8 h9 h10 hlg tk fx xl xp rmn hdn few mst fal al sv hi sn ch my kp tx rd wy)]) H → va_D A (List.flatten [(W_M cI cC cT h0 h1 h2 h3 h4 h5 h6 h7 h8 h9 h10 hlg tk fx xl xp rmn hdn few mst fal al sv hi sn ch my kp tx rd wy)]) → va_S A s.heap H locs → ∀ (ls : Array Slot), lv_has ls 5 [(0, .ref h0), (2, .int p1), (3, .int v3_1), (4, .int v4_2)] → W p l e rm_X6_wayLong s m ([.ref h0, .int p0, .int p1] : List Value).toArray below meth c H locs 0 0 (MQ below (mQi D (mTY cI cC cT) out A (List.flatten [(W_M cI cC cT h0 h1 h2 h3 h4 h5 h6 h7 h8 h9 h10 hlg tk fx xl xp rmn hdn few mst fal al sv hi sn ch my kp tx rd wy)])) ([.ref h0, .int p0, .int p1] : List Value).toArray s 0 0 A) (F0 m 5 ls []) := by
    intro n_3
    induction n_3 with
    | zero => intro v3_1 v4_2 hf; exact (iter_zero hf).elim
    | succ n_3 ih_3 =>
      intro v3_1 v4_2 hf H locs hP hD hS ls hl
      obtain ⟨o_3, hf, ho_3⟩ := iter_succ hf
      dsimp only [b_X6_wayLong_1] at hf
      refine lv_iload hx hb dX6_wayLong_5 (lv_at hl 3 rfl) ?_
      refine lv_bipush (v := 10) hx hb dX6_wayLong_7 (by decide) ?_
      refine lv_icmp_ge (tgt := 58) hx hb dX6_wayLong_9 (by decide) (fun c_4 => ?_) (fun c_4 => ?_)
      · have hf := ite_t hf c_4
        refine lv_bipush (v := -5) hx hb dX6_wayLong_58 (by decide) ?_
        cases hf
        have hf := ho_3.2 _ rfl
        cases hf
        exact mIret hx hb hr hlocks hP hD hK hS dX6_wayLong_60
      · have hf := ite_f hf c_4
        refine lv_iload_n hx hb dX6_wayLong_12 rfl (lv_at hl 2 rfl) ?_
        refine lv_bipush (v := -5) hx hb dX6_wayLong_13 (by decide) ?_
        refine lv_icmp_eq (tgt := 29) hx hb dX6_wayLong_15 (by decide) (fun c_5 => ?_) (fun c_5 => ?_)
        · have hf := ite_t hf c_5
          refine lv_bipush (v := -5) hx hb dX6_wayLong_29 (by decide) ?_
          cases hf
          have hf := ho_3.2 _ rfl
          cases hf
          exact mIret hx hb hr hlocks hP hD hK hS dX6_wayLong_31
        · have hf := ite_f hf c_5
          refine lv_aload_n hx hb dX6_wayLong_18 rfl (lv_at hl 0 rfl) ?_
          refine va_get (D := D) (ci := 6) (v := .ref h7) (C := RX6) (T := TX6) (N := 20) hx hb hts hin_X6 hown hK hP 0 rfl rfl 8 (by decide) fl_28 (fun _ h9 => h9) rfl dX6_wayLong_19 ?_
          refine lv_iload_n hx hb dX6_wayLong_22 rfl (lv_at hl 2 rfl) ?_
          obtain ⟨h_6, hf⟩ := grd hf
          refine va_iald hx hb hK hP 7 0 rfl rfl h_6 dX6_wayLong_23 ?_
          refine lv_bipush (v := -5) hx hb dX6_wayLong_24 (by decide) ?_
          refine lv_icmp_ne (tgt := 32) hx hb dX6_wayLong_26 (by decide) (fun c_7 => ?_) (fun c_7 => ?_)
          · have hf := ite_f hf c_7
            refine lv_iload_n hx hb dX6_wayLong_32 rfl (lv_at hl 2 rfl) ?_
            refine lv_iload_n hx hb dX6_wayLong_33 rfl (lv_at hl 1 rfl) ?_
            refine lv_icmp_ne (tgt := 40) hx hb dX6_wayLong_34 (by decide) (fun c_8 => ?_) (fun c_8 => ?_)
            · have hf := ite_f hf c_8
              refine lv_aload_n hx hb dX6_wayLong_40 rfl (lv_at hl 0 rfl) ?_
              refine lv_aload_n hx hb dX6_wayLong_41 rfl (lv_at hl 0 rfl) ?_
              refine va_get (D := D) (ci := 6) (v := .ref h7) (C := RX6) (T := TX6) (N := 20) hx hb hts hin_X6 hown hK hP 0 rfl rfl 8 (by decide) fl_28 (fun _ h9 => h9) rfl dX6_wayLong_42 ?_
              refine lv_iload_n hx hb dX6_wayLong_45 rfl (lv_at hl 2 rfl) ?_
              obtain ⟨h_9, hf⟩ := grd hf
              refine va_iald hx hb hK hP 7 0 rfl rfl h_9 dX6_wayLong_46 ?_
              refine lv_iconst (v := 3) hx hb dX6_wayLong_47 (by decide) ?_
              obtain ⟨r_10, q_11, hf⟩ := bnd hf
              refine mGoiS (segs := [(W_M cI cC cT h0 h1 h2 h3 h4 h5 h6 h7 h8 h9 h10 hlg tk fx xl xp rmn hdn few mst fal al sv hi sn ch my kp tx rd wy)]) (wcs := [(W_M cI cC cT h0 h1 h2 h3 h4 h5 h6 h7 h8 h9 h10 hlg tk fx xl xp rmn hdn few mst fal al sv hi sn ch my kp tx rd wy)]) (w1s := [(W_M cI cC cT h0 h1 h2 h3 h4 h5 h6 h7 h8 h9 h10 hlg tk fx xl xp rmn hdn few mst fal al sv hi sn ch my kp tx rd wy)]) (w2s := [(W_M cI cC cT h0 h1 h2 h3 h4 h5 h6 h7 h8 h9 h10 hlg tk fx xl xp rmn hdn few mst fal al sv hi sn ch my kp tx rd wy)]) rfl rfl (va_runV (As := [.int (kp v3_1.toNatClampNeg), .int 3]) (rest := []) ⟨hx, hb, hml, hown, hts⟩ (c_X6_of l D cI cC cT h0 h1 h2 h3 h4 h5 h6 h7 h8 h9 h10 hlg tk fx xl xp rmn hdn few mst fal al sv hi sn ch my kp tx rd wy H.size (kp v3_1.toNatClampNeg) 3 r_10 q_11) (cwV 2 hts gX6_wayLong_X6_of rfl rfl rfl (by decide +kernel) ⟨Nat.le_of_ble_eq_true rfl, Nat.le_of_ble_eq_true rfl⟩) (mPreVS [(W_M cI cC cT h0 h1 h2 h3 h4 h5 h6 h7 h8 h9 h10 hlg tk fx xl xp rmn hdn few mst fal al sv hi sn ch my kp tx rd wy)] rfl hP hD hK hN [0] rfl (by decide) (va_recv hK (sP hP 0 rfl) (ci := 6) (q0 := 0) rfl rfl)) rfl rfl hl.1 rfl (lv_room (Nat.le_of_ble_eq_true rfl)) dX6_wayLong_48 ⟨Nat.zero_le _, Nat.zero_le _⟩) hP hD hS hA [0] rfl rfl rfl rfl (fun H locs hP hD hS => ?_)
              refine lv_istore_n (lv' := [(3, .int r_10), (0, .ref h0), (2, .int p1), (4, .int v4_2)]) hx hb dX6_wayLong_51 rfl hl (by decide) rfl (fun ls hl => ?_)
              refine lv_iinc (v := v4_2 + 1) (lv' := [(4, .int (v4_2 + 1)), (3, .int r_10), (0, .ref h0), (2, .int p1)]) hx hb dX6_wayLong_52 hl (k := 3) rfl rfl (by decide) rfl (fun ls hl => ?_)
              refine lv_goto (tgt := 5) hx hb dX6_wayLong_55 (by decide) ?_
              cases hf
              have hf := ho_3.1 _ rfl
              exact ih_3 _ _ hf _ _ hP hD hS _ (lv_sub hl [2, 3, 1, 0] rfl)
            · have hf := ite_t hf c_8
              refine lv_iload hx hb dX6_wayLong_37 (lv_at hl 3 rfl) ?_
              cases hf
              have hf := ho_3.2 _ rfl
              cases hf
              exact mIret hx hb hr hlocks hP hD hK hS dX6_wayLong_39
          · have hf := ite_t hf c_7
            refine lv_bipush (v := -5) hx hb dX6_wayLong_29 (by decide) ?_
            cases hf
            have hf := ho_3.2 _ rfl
            cases hf
            exact mIret hx hb hr hlocks hP hD hK hS dX6_wayLong_31
  exact LP_3 _ _ _ hf _ _ hP hD hS _ (lv_sub hl [2, 4, 1, 0] rfl)
abbrev rm_X6_asksWay : Room := { frames := 5, cells := 0, slots := 0, locals := 111 }
set_option maxHeartbeats 4000000 in
set_option maxRecDepth 100000 in
theorem c_X6_asksWay (l : Launch) (D : va_G) (cI cC cT : ClassId) (h0 h1 h2 h3 h4 h5 h6 h7 h8 h9 h10 : Nat) (hlg : Int32) (tk : Int32) (fx : Int32) (xl : Int32) (xp : Int32) (rmn : Int32) (hdn : Int32) (few : Int32) (mst : Int32) (fal : Int32) (al : Nat → Int32) (sv : Nat → Int32) (hi : Nat → Int32) (sn : Nat → Int32) (ch : Nat → Int32) (my : Nat → Int32) (kp : Nat → Int32) (tx : Nat → Int32) (rd : Nat → Int32) (wy : Nat → Int32) (sz : Nat) (p0 : Int32) (p1 : Int32) (o_hdn : Int32) (o_few : Int32) (o_mst : Int32) (o_fal : Int32) (o_ch : Nat → Int32) (o_my : Nat → Int32) (o_kp : Nat → Int32) (hf : f_X6_asksWay fx al ch my kp p0 p1 = some ((o_hdn, o_few, o_mst, o_fal, o_ch, o_my, o_kp))) : Met l yX6_asksWay wsX6_asksWay rm_X6_asksWay (mP D (mTY cI cC cT) [.ref h0, .int p0, .int p1] (List.flatten [(W_M cI cC cT h0 h1 h2 h3 h4 h5 h6 h7 h8 h9 h10 hlg tk fx xl xp rmn hdn few mst fal al sv hi sn ch my kp tx rd wy)]) sz) (mQv D (mTY cI cC cT) (va_A (List.flatten [(W_M cI cC cT h0 h1 h2 h3 h4 h5 h6 h7 h8 h9 h10 hlg tk fx xl xp rmn hdn few mst fal al sv hi sn ch my kp tx rd wy)]) sz) (List.flatten [(W_M cI cC cT h0 h1 h2 h3 h4 h5 h6 h7 h8 h9 h10 hlg tk fx xl xp rmn o_hdn o_few o_mst o_fal al sv hi sn o_ch o_my o_kp tx rd wy)])) 0 0 (va_A (List.flatten [(W_M cI cC cT h0 h1 h2 h3 h4 h5 h6 h7 h8 h9 h10 hlg tk fx xl xp rmn hdn few mst fal al sv hi sn ch my kp tx rd wy)]) sz) := by
  refine mEnt (cc := cX6_asksWay) (maxL := 5) (ret := none) (own := RX6) (Qq := fun A => mQv D (mTY cI cC cT) A (List.flatten [(W_M cI cC cT h0 h1 h2 h3 h4 h5 h6 h7 h8 h9 h10 hlg tk fx xl xp rmn o_hdn o_few o_mst o_fal al sv hi sn o_ch o_my o_kp tx rd wy)])) (by decide) rfl rfl (Nat.le_of_ble_eq_true rfl) ?_
  intro p e s m below meth c A ls H locs hx hb hr hml hlocks hown hts hN hA hP hK hD hS hl
  have hl : lv_has ls 5 [(0, .ref h0), (1, .int p0), (2, .int p1)] := hl
  unfold f_X6_asksWay at hf
  refine lv_aload_n hx hb dX6_asksWay_0 rfl (lv_at hl 0 rfl) ?_
  obtain ⟨⟨hdn_1, few_2, mst_3, fal_4, ch_5, my_6⟩, q_7, hf⟩ := bnd hf
  refine mGovS (segs := [(W_M cI cC cT h0 h1 h2 h3 h4 h5 h6 h7 h8 h9 h10 hlg tk fx xl xp rmn hdn few mst fal al sv hi sn ch my kp tx rd wy)]) (wcs := [(W_M cI cC cT h0 h1 h2 h3 h4 h5 h6 h7 h8 h9 h10 hlg tk fx xl xp rmn hdn few mst fal al sv hi sn ch my kp tx rd wy)]) (w1s := [(W_M cI cC cT h0 h1 h2 h3 h4 h5 h6 h7 h8 h9 h10 hlg tk fx xl xp rmn hdn_1 few_2 mst_3 fal_4 al sv hi sn ch_5 my_6 kp tx rd wy)]) (w2s := [(W_M cI cC cT h0 h1 h2 h3 h4 h5 h6 h7 h8 h9 h10 hlg tk fx xl xp rmn hdn_1 few_2 mst_3 fal_4 al sv hi sn ch_5 my_6 kp tx rd wy)]) rfl rfl (va_runV (As := []) (rest := []) ⟨hx, hb, hml, hown, hts⟩ (c_X6_begins l D cI cC cT h0 h1 h2 h3 h4 h5 h6 h7 h8 h9 h10 hlg tk fx xl xp rmn hdn few mst fal al sv hi sn ch my kp tx rd wy H.size hdn_1 few_2 mst_3 fal_4 ch_5 my_6 q_7) (cwV 0 hts gX6_asksWay_X6_begins rfl rfl rfl (by decide +kernel) ⟨Nat.le_of_ble_eq_true rfl, Nat.le_of_ble_eq_true rfl⟩) (mPreVS [(W_M cI cC cT h0 h1 h2 h3 h4 h5 h6 h7 h8 h9 h10 hlg tk fx xl xp rmn hdn few mst fal al sv hi sn ch my kp tx rd wy)] rfl hP hD hK hN [0] rfl (by decide) (va_recv hK (sP hP 0 rfl) (ci := 6) (q0 := 0) rfl rfl)) rfl rfl hl.1 rfl (lv_room (Nat.le_of_ble_eq_true rfl)) dX6_asksWay_1 ⟨Nat.zero_le _, Nat.zero_le _⟩) hP hD hS hA [0] rfl rfl rfl rfl (fun H locs hP hD hS => ?_)
  refine lv_iconst (v := 0) hx hb dX6_asksWay_4 (by decide) ?_
  refine lv_istore_n (lv' := [(3, .int 0), (0, .ref h0), (1, .int p0), (2, .int p1)]) hx hb dX6_asksWay_5 rfl hl (by decide) rfl (fun ls hl => ?_)
  have LP_14 : ∀ (n_14 : Nat) (v3_8 : Int32) (hdn_9 : Int32) (few_10 : Int32) (mst_11 : Int32) (fal_12 : Int32) (kp_13 : Nat → Int32), iter n_14 (b_X6_asksWay_1 al p0 p1 my_6 ch_5) ((v3_8, hdn_9, few_10, mst_11, fal_12, kp_13)) = some ((o_hdn, o_few, o_mst, o_fal, o_ch, o_my, o_kp)) → ∀ (H : Heap) (locs : List Loc), va_P D vwCl (List.flatten [(W_M cI cC cT h0 h1 h2 h3 h4 h5 h6 h7 h8 h9 h10 hlg tk fx xl xp rmn hdn_9 few_10 mst_11 fal_12 al sv hi sn ch_5 my_6 kp_13 tx rd wy)]) H → va_D A (List.flatten [(W_M cI cC cT h0 h1 h2 h3 h4 h5 h6 h7 h8 h9 h10 hlg tk fx xl xp rmn hdn_9 few_10 mst_11 fal_12 al sv hi sn ch_5 my_6 kp_13 tx rd wy)]) → va_S A s.heap H locs → ∀ (ls : Array Slot), lv_has ls 5 [(0, .ref h0), (1, .int p0), (2, .int p1), (3, .int v3_8)] → W p l e rm_X6_asksWay s m ([.ref h0, .int p0, .int p1] : List Value).toArray below meth c H locs 0 0 (MQ below (mQv D (mTY cI cC cT) A (List.flatten [(W_M cI cC cT h0 h1 h2 h3 h4 h5 h6 h7 h8 h9 h10 hlg tk fx xl xp rmn o_hdn o_few o_mst o_fal al sv hi sn o_ch o_my o_kp tx rd wy)])) ([.ref h0, .int p0, .int p1] : List Value).toArray s 0 0 A) (F0 m 6 ls []) := by
    intro n_14
    induction n_14 with
    | zero => intro v3_8 hdn_9 few_10 mst_11 fal_12 kp_13 hf; exact (iter_zero hf).elim
    | succ n_14 ih_14 =>
      intro v3_8 hdn_9 few_10 mst_11 fal_12 kp_13 hf H locs hP hD hS ls hl
      obtain ⟨o_14, hf, ho_14⟩ := iter_succ hf
      dsimp only [b_X6_asksWay_1] at hf
      refine lv_iload_n hx hb dX6_asksWay_6 rfl (lv_at hl 3 rfl) ?_
      refine lv_aload_n hx hb dX6_asksWay_7 rfl (lv_at hl 0 rfl) ?_
      obtain ⟨r_15, q_16, hf⟩ := bnd hf
      refine mGoiS (segs := [(W_M cI cC cT h0 h1 h2 h3 h4 h5 h6 h7 h8 h9 h10 hlg tk fx xl xp rmn hdn_9 few_10 mst_11 fal_12 al sv hi sn ch_5 my_6 kp_13 tx rd wy)]) (wcs := [(W_M cI cC cT h0 h1 h2 h3 h4 h5 h6 h7 h8 h9 h10 hlg tk fx xl xp rmn hdn_9 few_10 mst_11 fal_12 al sv hi sn ch_5 my_6 kp_13 tx rd wy)]) (w1s := [(W_M cI cC cT h0 h1 h2 h3 h4 h5 h6 h7 h8 h9 h10 hlg tk fx xl xp rmn hdn_9 few_10 mst_11 fal_12 al sv hi sn ch_5 my_6 kp_13 tx rd wy)]) (w2s := [(W_M cI cC cT h0 h1 h2 h3 h4 h5 h6 h7 h8 h9 h10 hlg tk fx xl xp rmn hdn_9 few_10 mst_11 fal_12 al sv hi sn ch_5 my_6 kp_13 tx rd wy)]) rfl rfl (va_runV (As := []) (rest := [.int v3_8]) ⟨hx, hb, hml, hown, hts⟩ (c_X6_mendings l D cI cC cT h0 h1 h2 h3 h4 h5 h6 h7 h8 h9 h10 hlg tk fx xl xp rmn hdn_9 few_10 mst_11 fal_12 al sv hi sn ch_5 my_6 kp_13 tx rd wy H.size r_15 q_16) (cwV 0 hts gX6_asksWay_X6_mendings rfl rfl rfl (by decide +kernel) ⟨Nat.le_of_ble_eq_true rfl, Nat.le_of_ble_eq_true rfl⟩) (mPreVS [(W_M cI cC cT h0 h1 h2 h3 h4 h5 h6 h7 h8 h9 h10 hlg tk fx xl xp rmn hdn_9 few_10 mst_11 fal_12 al sv hi sn ch_5 my_6 kp_13 tx rd wy)] rfl hP hD hK hN [0] rfl (by decide) (va_recv hK (sP hP 0 rfl) (ci := 6) (q0 := 0) rfl rfl)) rfl rfl hl.1 rfl (lv_room (Nat.le_of_ble_eq_true rfl)) dX6_asksWay_8 ⟨Nat.zero_le _, Nat.zero_le _⟩) hP hD hS hA [0] rfl rfl rfl rfl (fun H locs hP hD hS => ?_)
      refine lv_icmp_ge (tgt := 52) hx hb dX6_asksWay_11 (by decide) (fun c_17 => ?_) (fun c_17 => ?_)
      · have hf := ite_t hf c_17
        cases hf
        have hf := ho_14.2 _ rfl
        cases hf
        exact mVret hx hb hr hlocks hP hD hK hS dX6_asksWay_52
      · have hf := ite_f hf c_17
        refine lv_aload_n hx hb dX6_asksWay_14 rfl (lv_at hl 0 rfl) ?_
        refine lv_iload_n hx hb dX6_asksWay_15 rfl (lv_at hl 3 rfl) ?_
        obtain ⟨kp_18, q_19, hf⟩ := bnd hf
        refine mGovS (segs := [(W_M cI cC cT h0 h1 h2 h3 h4 h5 h6 h7 h8 h9 h10 hlg tk fx xl xp rmn hdn_9 few_10 mst_11 fal_12 al sv hi sn ch_5 my_6 kp_13 tx rd wy)]) (wcs := [(W_M cI cC cT h0 h1 h2 h3 h4 h5 h6 h7 h8 h9 h10 hlg tk fx xl xp rmn hdn_9 few_10 mst_11 fal_12 al sv hi sn ch_5 my_6 kp_13 tx rd wy)]) (w1s := [(W_M cI cC cT h0 h1 h2 h3 h4 h5 h6 h7 h8 h9 h10 hlg tk fx xl xp rmn hdn_9 few_10 mst_11 fal_12 al sv hi sn ch_5 my_6 kp_18 tx rd wy)]) (w2s := [(W_M cI cC cT h0 h1 h2 h3 h4 h5 h6 h7 h8 h9 h10 hlg tk fx xl xp rmn hdn_9 few_10 mst_11 fal_12 al sv hi sn ch_5 my_6 kp_18 tx rd wy)]) rfl rfl (va_runV (As := [.int v3_8]) (rest := []) ⟨hx, hb, hml, hown, hts⟩ (c_X6_takes l D cI cC cT h0 h1 h2 h3 h4 h5 h6 h7 h8 h9 h10 hlg tk fx xl xp rmn hdn_9 few_10 mst_11 fal_12 al sv hi sn ch_5 my_6 kp_13 tx rd wy H.size v3_8 kp_18 q_19) (cwV 1 hts gX6_asksWay_X6_takes rfl rfl rfl (by decide +kernel) ⟨Nat.le_of_ble_eq_true rfl, Nat.le_of_ble_eq_true rfl⟩) (mPreVS [(W_M cI cC cT h0 h1 h2 h3 h4 h5 h6 h7 h8 h9 h10 hlg tk fx xl xp rmn hdn_9 few_10 mst_11 fal_12 al sv hi sn ch_5 my_6 kp_13 tx rd wy)] rfl hP hD hK hN [0] rfl (by decide) (va_recv hK (sP hP 0 rfl) (ci := 6) (q0 := 0) rfl rfl)) rfl rfl hl.1 rfl (lv_room (Nat.le_of_ble_eq_true rfl)) dX6_asksWay_16 ⟨Nat.zero_le _, Nat.zero_le _⟩) hP hD hS hA [0] rfl rfl rfl rfl (fun H locs hP hD hS => ?_)
        refine lv_aload_n hx hb dX6_asksWay_19 rfl (lv_at hl 0 rfl) ?_
        refine lv_iload_n hx hb dX6_asksWay_20 rfl (lv_at hl 1 rfl) ?_
        refine lv_iload_n hx hb dX6_asksWay_21 rfl (lv_at hl 2 rfl) ?_
        obtain ⟨r_20, q_21, hf⟩ := bnd hf
        refine mGoiS (segs := [(W_M cI cC cT h0 h1 h2 h3 h4 h5 h6 h7 h8 h9 h10 hlg tk fx xl xp rmn hdn_9 few_10 mst_11 fal_12 al sv hi sn ch_5 my_6 kp_18 tx rd wy)]) (wcs := [(W_M cI cC cT h0 h1 h2 h3 h4 h5 h6 h7 h8 h9 h10 hlg tk fx xl xp rmn hdn_9 few_10 mst_11 fal_12 al sv hi sn ch_5 my_6 kp_18 tx rd wy)]) (w1s := [(W_M cI cC cT h0 h1 h2 h3 h4 h5 h6 h7 h8 h9 h10 hlg tk fx xl xp rmn hdn_9 few_10 mst_11 fal_12 al sv hi sn ch_5 my_6 kp_18 tx rd wy)]) (w2s := [(W_M cI cC cT h0 h1 h2 h3 h4 h5 h6 h7 h8 h9 h10 hlg tk fx xl xp rmn hdn_9 few_10 mst_11 fal_12 al sv hi sn ch_5 my_6 kp_18 tx rd wy)]) rfl rfl (va_runV (As := [.int p0, .int p1]) (rest := []) ⟨hx, hb, hml, hown, hts⟩ (c_X6_wayLong l D cI cC cT h0 h1 h2 h3 h4 h5 h6 h7 h8 h9 h10 hlg tk fx xl xp rmn hdn_9 few_10 mst_11 fal_12 al sv hi sn ch_5 my_6 kp_18 tx rd wy H.size p0 p1 r_20 q_21) (cwV 2 hts gX6_asksWay_X6_wayLong rfl rfl rfl (by decide +kernel) ⟨Nat.le_of_ble_eq_true rfl, Nat.le_of_ble_eq_true rfl⟩) (mPreVS [(W_M cI cC cT h0 h1 h2 h3 h4 h5 h6 h7 h8 h9 h10 hlg tk fx xl xp rmn hdn_9 few_10 mst_11 fal_12 al sv hi sn ch_5 my_6 kp_18 tx rd wy)] rfl hP hD hK hN [0] rfl (by decide) (va_recv hK (sP hP 0 rfl) (ci := 6) (q0 := 0) rfl rfl)) rfl rfl hl.1 rfl (lv_room (Nat.le_of_ble_eq_true rfl)) dX6_asksWay_22 ⟨Nat.zero_le _, Nat.zero_le _⟩) hP hD hS hA [0] rfl rfl rfl rfl (fun H locs hP hD hS => ?_)
        refine lv_istore (lv' := [(4, .int r_20), (0, .ref h0), (1, .int p0), (2, .int p1), (3, .int v3_8)]) hx hb dX6_asksWay_25 hl (by decide) rfl (fun ls hl => ?_)
        refine lv_aload_n hx hb dX6_asksWay_27 rfl (lv_at hl 1 rfl) ?_
        refine lv_iload_n hx hb dX6_asksWay_28 rfl (lv_at hl 4 rfl) ?_
        refine lv_iload hx hb dX6_asksWay_29 (lv_at hl 0 rfl) ?_
        refine lv_bipush (v := -5) hx hb dX6_asksWay_31 (by decide) ?_
        obtain ⟨x_22, q_24, hf⟩ := bnd hf
        have K_23 : ∀ (H : Heap) (locs : List Loc), va_P D vwCl (List.flatten [(W_M cI cC cT h0 h1 h2 h3 h4 h5 h6 h7 h8 h9 h10 hlg tk fx xl xp rmn hdn_9 few_10 mst_11 fal_12 al sv hi sn ch_5 my_6 kp_18 tx rd wy)]) H → va_D A (List.flatten [(W_M cI cC cT h0 h1 h2 h3 h4 h5 h6 h7 h8 h9 h10 hlg tk fx xl xp rmn hdn_9 few_10 mst_11 fal_12 al sv hi sn ch_5 my_6 kp_18 tx rd wy)]) → va_S A s.heap H locs → ∀ (ls : Array Slot), lv_has ls 5 [(0, .ref h0), (1, .int p0), (2, .int p1), (3, .int v3_8), (4, .int r_20)] → W p l e rm_X6_asksWay s m ([.ref h0, .int p0, .int p1] : List Value).toArray below meth c H locs 0 0 (MQ below (mQv D (mTY cI cC cT) A (List.flatten [(W_M cI cC cT h0 h1 h2 h3 h4 h5 h6 h7 h8 h9 h10 hlg tk fx xl xp rmn o_hdn o_few o_mst o_fal al sv hi sn o_ch o_my o_kp tx rd wy)])) ([.ref h0, .int p0, .int p1] : List Value).toArray s 0 0 A) (F0 m 41 ls [.int x_22, .int v3_8, .ref h0]) := by
          intro H locs hP hD hS ls hl
          refine lv_iload hx hb dX6_asksWay_41 (lv_at hl 4 rfl) ?_
          obtain ⟨⟨hdn_26, few_27, mst_28, fal_29⟩, q_30, hf⟩ := bnd hf
          refine mGovS (segs := [(W_M cI cC cT h0 h1 h2 h3 h4 h5 h6 h7 h8 h9 h10 hlg tk fx xl xp rmn hdn_9 few_10 mst_11 fal_12 al sv hi sn ch_5 my_6 kp_18 tx rd wy)]) (wcs := [(W_M cI cC cT h0 h1 h2 h3 h4 h5 h6 h7 h8 h9 h10 hlg tk fx xl xp rmn hdn_9 few_10 mst_11 fal_12 al sv hi sn ch_5 my_6 kp_18 tx rd wy)]) (w1s := [(W_M cI cC cT h0 h1 h2 h3 h4 h5 h6 h7 h8 h9 h10 hlg tk fx xl xp rmn hdn_26 few_27 mst_28 fal_29 al sv hi sn ch_5 my_6 kp_18 tx rd wy)]) (w2s := [(W_M cI cC cT h0 h1 h2 h3 h4 h5 h6 h7 h8 h9 h10 hlg tk fx xl xp rmn hdn_26 few_27 mst_28 fal_29 al sv hi sn ch_5 my_6 kp_18 tx rd wy)]) rfl rfl (va_runV (As := [.int v3_8, .int x_22, .int r_20]) (rest := []) ⟨hx, hb, hml, hown, hts⟩ (c_X6_counts l D cI cC cT h0 h1 h2 h3 h4 h5 h6 h7 h8 h9 h10 hlg tk fx xl xp rmn hdn_9 few_10 mst_11 fal_12 al sv hi sn ch_5 my_6 kp_18 tx rd wy H.size v3_8 x_22 r_20 hdn_26 few_27 mst_28 fal_29 q_30) (cwV 3 hts gX6_asksWay_X6_counts rfl rfl rfl (by decide +kernel) ⟨Nat.le_of_ble_eq_true rfl, Nat.le_of_ble_eq_true rfl⟩) (mPreVS [(W_M cI cC cT h0 h1 h2 h3 h4 h5 h6 h7 h8 h9 h10 hlg tk fx xl xp rmn hdn_9 few_10 mst_11 fal_12 al sv hi sn ch_5 my_6 kp_18 tx rd wy)] rfl hP hD hK hN [0] rfl (by decide) (va_recv hK (sP hP 0 rfl) (ci := 6) (q0 := 0) rfl rfl)) rfl rfl hl.1 rfl (lv_room (Nat.le_of_ble_eq_true rfl)) dX6_asksWay_43 ⟨Nat.zero_le _, Nat.zero_le _⟩) hP hD hS hA [0] rfl rfl rfl rfl (fun H locs hP hD hS => ?_)
          refine lv_iinc (v := v3_8 + 1) (lv' := [(3, .int (v3_8 + 1)), (0, .ref h0), (1, .int p0), (2, .int p1), (4, .int r_20)]) hx hb dX6_asksWay_46 hl (k := 3) rfl rfl (by decide) rfl (fun ls hl => ?_)
          refine lv_goto (tgt := 6) hx hb dX6_asksWay_49 (by decide) ?_
          cases hf
          have hf := ho_14.1 _ rfl
          exact ih_14 _ _ _ _ _ _ hf _ _ hP hD hS _ (lv_sub hl [1, 2, 3, 0] rfl)
        have hf := q_24
        refine lv_icmp_eq (tgt := 40) hx hb dX6_asksWay_33 (by decide) (fun c_25 => ?_) (fun c_25 => ?_)
        · have hf := ite_t hf c_25
          refine lv_iconst (v := 0) hx hb dX6_asksWay_40 (by decide) ?_
          cases hf
          exact K_23 _ _ hP hD hS _ (lv_sub hl [1, 2, 3, 4, 0] rfl)
        · have hf := ite_f hf c_25
          refine lv_iconst (v := 1) hx hb dX6_asksWay_36 (by decide) ?_
          refine lv_goto (tgt := 41) hx hb dX6_asksWay_37 (by decide) ?_
          cases hf
          exact K_23 _ _ hP hD hS _ (lv_sub hl [1, 2, 3, 4, 0] rfl)
  exact LP_14 _ _ _ _ _ _ _ hf _ _ hP hD hS _ (lv_sub hl [1, 2, 3, 0] rfl)
abbrev rm_X6_isSureWay : Room := { frames := 6, cells := 0, slots := 0, locals := 135 }
set_option maxHeartbeats 4000000 in
set_option maxRecDepth 100000 in
theorem c_X6_isSureWay (l : Launch) (D : va_G) (cI cC cT : ClassId) (h0 h1 h2 h3 h4 h5 h6 h7 h8 h9 h10 : Nat) (hlg : Int32) (tk : Int32) (fx : Int32) (xl : Int32) (xp : Int32) (rmn : Int32) (hdn : Int32) (few : Int32) (mst : Int32) (fal : Int32) (al : Nat → Int32) (sv : Nat → Int32) (hi : Nat → Int32) (sn : Nat → Int32) (ch : Nat → Int32) (my : Nat → Int32) (kp : Nat → Int32) (tx : Nat → Int32) (rd : Nat → Int32) (wy : Nat → Int32) (sz : Nat) (p0 : Int32) (p1 : Int32) (out : Int32) (o_hdn : Int32) (o_few : Int32) (o_mst : Int32) (o_fal : Int32) (o_ch : Nat → Int32) (o_my : Nat → Int32) (o_kp : Nat → Int32) (hf : f_X6_isSureWay fx al ch my kp p0 p1 = some ((out, o_hdn, o_few, o_mst, o_fal, o_ch, o_my, o_kp))) : Met l yX6_isSureWay wsX6_isSureWay rm_X6_isSureWay (mP D (mTY cI cC cT) [.ref h0, .int p0, .int p1] (List.flatten [(W_M cI cC cT h0 h1 h2 h3 h4 h5 h6 h7 h8 h9 h10 hlg tk fx xl xp rmn hdn few mst fal al sv hi sn ch my kp tx rd wy)]) sz) (mQi D (mTY cI cC cT) out (va_A (List.flatten [(W_M cI cC cT h0 h1 h2 h3 h4 h5 h6 h7 h8 h9 h10 hlg tk fx xl xp rmn hdn few mst fal al sv hi sn ch my kp tx rd wy)]) sz) (List.flatten [(W_M cI cC cT h0 h1 h2 h3 h4 h5 h6 h7 h8 h9 h10 hlg tk fx xl xp rmn o_hdn o_few o_mst o_fal al sv hi sn o_ch o_my o_kp tx rd wy)])) 0 0 (va_A (List.flatten [(W_M cI cC cT h0 h1 h2 h3 h4 h5 h6 h7 h8 h9 h10 hlg tk fx xl xp rmn hdn few mst fal al sv hi sn ch my kp tx rd wy)]) sz) := by
  refine mEnt (cc := cX6_isSureWay) (maxL := 3) (ret := (some .boolean)) (own := RX6) (Qq := fun A => mQi D (mTY cI cC cT) out A (List.flatten [(W_M cI cC cT h0 h1 h2 h3 h4 h5 h6 h7 h8 h9 h10 hlg tk fx xl xp rmn o_hdn o_few o_mst o_fal al sv hi sn o_ch o_my o_kp tx rd wy)])) (by decide) rfl rfl (Nat.le_of_ble_eq_true rfl) ?_
  intro p e s m below meth c A ls H locs hx hb hr hml hlocks hown hts hN hA hP hK hD hS hl
  have hin_X6 : ∀ w ∈ u_ws RX6 TX6 20, w ∈ wsX6_isSureWay := by decide +kernel
  have fl_161 := hts (.fieldLink RX6 161 "SureMendingsModel" "failing" "I") (by decide +kernel)
  have hl : lv_has ls 3 [(0, .ref h0), (1, .int p0), (2, .int p1)] := hl
  unfold f_X6_isSureWay at hf
  refine lv_aload_n hx hb dX6_isSureWay_0 rfl (lv_at hl 0 rfl) ?_
  refine lv_iload_n hx hb dX6_isSureWay_1 rfl (lv_at hl 1 rfl) ?_
  refine lv_iload_n hx hb dX6_isSureWay_2 rfl (lv_at hl 2 rfl) ?_
  obtain ⟨⟨hdn_1, few_2, mst_3, fal_4, ch_5, my_6, kp_7⟩, q_8, hf⟩ := bnd hf
  refine mGovS (segs := [(W_M cI cC cT h0 h1 h2 h3 h4 h5 h6 h7 h8 h9 h10 hlg tk fx xl xp rmn hdn few mst fal al sv hi sn ch my kp tx rd wy)]) (wcs := [(W_M cI cC cT h0 h1 h2 h3 h4 h5 h6 h7 h8 h9 h10 hlg tk fx xl xp rmn hdn few mst fal al sv hi sn ch my kp tx rd wy)]) (w1s := [(W_M cI cC cT h0 h1 h2 h3 h4 h5 h6 h7 h8 h9 h10 hlg tk fx xl xp rmn hdn_1 few_2 mst_3 fal_4 al sv hi sn ch_5 my_6 kp_7 tx rd wy)]) (w2s := [(W_M cI cC cT h0 h1 h2 h3 h4 h5 h6 h7 h8 h9 h10 hlg tk fx xl xp rmn hdn_1 few_2 mst_3 fal_4 al sv hi sn ch_5 my_6 kp_7 tx rd wy)]) rfl rfl (va_runV (As := [.int p0, .int p1]) (rest := []) ⟨hx, hb, hml, hown, hts⟩ (c_X6_asksWay l D cI cC cT h0 h1 h2 h3 h4 h5 h6 h7 h8 h9 h10 hlg tk fx xl xp rmn hdn few mst fal al sv hi sn ch my kp tx rd wy H.size p0 p1 hdn_1 few_2 mst_3 fal_4 ch_5 my_6 kp_7 q_8) (cwV 2 hts gX6_isSureWay_X6_asksWay rfl rfl rfl (by decide +kernel) ⟨Nat.le_of_ble_eq_true rfl, Nat.le_of_ble_eq_true rfl⟩) (mPreVS [(W_M cI cC cT h0 h1 h2 h3 h4 h5 h6 h7 h8 h9 h10 hlg tk fx xl xp rmn hdn few mst fal al sv hi sn ch my kp tx rd wy)] rfl hP hD hK hN [0] rfl (by decide) (va_recv hK (sP hP 0 rfl) (ci := 6) (q0 := 0) rfl rfl)) rfl rfl hl.1 rfl (lv_room (Nat.le_of_ble_eq_true rfl)) dX6_isSureWay_3 ⟨Nat.zero_le _, Nat.zero_le _⟩) hP hD hS hA [0] rfl rfl rfl rfl (fun H locs hP hD hS => ?_)
  refine lv_aload_n hx hb dX6_isSureWay_6 rfl (lv_at hl 0 rfl) ?_
  refine va_get (D := D) (ci := 6) (v := .int fal_4) (C := RX6) (T := TX6) (N := 20) hx hb hts hin_X6 hown hK hP 0 rfl rfl 18 (by decide) fl_161 (fun _ h9 => h9) rfl dX6_isSureWay_7 ?_
  refine lv_bipush (v := -5) hx hb dX6_isSureWay_10 (by decide) ?_
  refine lv_icmp_ne (tgt := 19) hx hb dX6_isSureWay_12 (by decide) (fun c_9 => ?_) (fun c_9 => ?_)
  · have hf := ite_f hf c_9
    refine lv_iconst (v := 0) hx hb dX6_isSureWay_19 (by decide) ?_
    cases hf
    exact mZret hx hb hr rfl hlocks hP hD hK hS dX6_isSureWay_20
  · have hf := ite_t hf c_9
    refine lv_iconst (v := 1) hx hb dX6_isSureWay_15 (by decide) ?_
    refine lv_goto (tgt := 20) hx hb dX6_isSureWay_16 (by decide) ?_
    cases hf
    exact mZret hx hb hr rfl hlocks hP hD hK hS dX6_isSureWay_20
abbrev rm_X6_rowsOf : Room := { frames := 1, cells := 0, slots := 0, locals := 22 }
set_option maxHeartbeats 4000000 in
set_option maxRecDepth 100000 in
theorem c_X6_rowsOf (l : Launch) (D : va_G) (cI cC cT : ClassId) (h0 h1 h2 h3 h4 h5 h6 h7 h8 h9 h10 : Nat) (hlg : Int32) (tk : Int32) (fx : Int32) (xl : Int32) (xp : Int32) (rmn : Int32) (hdn : Int32) (few : Int32) (mst : Int32) (fal : Int32) (al : Nat → Int32) (sv : Nat → Int32) (hi : Nat → Int32) (sn : Nat → Int32) (ch : Nat → Int32) (my : Nat → Int32) (kp : Nat → Int32) (tx : Nat → Int32) (rd : Nat → Int32) (wy : Nat → Int32) (sz : Nat) (p0 : Int32) (out : Int32) (hf : f_X6_rowsOf al p0 = some out) : Met l yX6_rowsOf wsX6_rowsOf rm_X6_rowsOf (mP D (mTY cI cC cT) [.ref h0, .int p0] (List.flatten [(W_M cI cC cT h0 h1 h2 h3 h4 h5 h6 h7 h8 h9 h10 hlg tk fx xl xp rmn hdn few mst fal al sv hi sn ch my kp tx rd wy)]) sz) (mQi D (mTY cI cC cT) out (va_A (List.flatten [(W_M cI cC cT h0 h1 h2 h3 h4 h5 h6 h7 h8 h9 h10 hlg tk fx xl xp rmn hdn few mst fal al sv hi sn ch my kp tx rd wy)]) sz) (List.flatten [(W_M cI cC cT h0 h1 h2 h3 h4 h5 h6 h7 h8 h9 h10 hlg tk fx xl xp rmn hdn few mst fal al sv hi sn ch my kp tx rd wy)])) 0 0 (va_A (List.flatten [(W_M cI cC cT h0 h1 h2 h3 h4 h5 h6 h7 h8 h9 h10 hlg tk fx xl xp rmn hdn few mst fal al sv hi sn ch my kp tx rd wy)]) sz) := by
  refine mEnt (cc := cX6_rowsOf) (maxL := 4) (ret := (some .int)) (own := RX6) (Qq := fun A => mQi D (mTY cI cC cT) out A (List.flatten [(W_M cI cC cT h0 h1 h2 h3 h4 h5 h6 h7 h8 h9 h10 hlg tk fx xl xp rmn hdn few mst fal al sv hi sn ch my kp tx rd wy)])) (by decide) rfl rfl (Nat.le_of_ble_eq_true rfl) ?_
  intro p e s m below meth c A ls H locs hx hb hr hml hlocks hown hts hN hA hP hK hD hS hl
  have hin_X6 : ∀ w ∈ u_ws RX6 TX6 20, w ∈ wsX6_rowsOf := by decide +kernel
  have fl_7 := hts (.fieldLink RX6 7 "SureMendingsModel" "all" "[I") (by decide +kernel)
  have hl : lv_has ls 4 [(0, .ref h0), (1, .int p0)] := hl
  unfold f_X6_rowsOf at hf
  refine lv_iconst (v := 0) hx hb dX6_rowsOf_0 (by decide) ?_
  refine lv_istore_n (lv' := [(2, .int 0), (0, .ref h0), (1, .int p0)]) hx hb dX6_rowsOf_1 rfl hl (by decide) rfl (fun ls hl => ?_)
  refine lv_iconst (v := 0) hx hb dX6_rowsOf_2 (by decide) ?_
  refine lv_istore_n (lv' := [(3, .int 0), (2, .int 0), (0, .ref h0), (1, .int p0)]) hx hb dX6_rowsOf_3 rfl hl (by decide) rfl (fun ls hl => ?_)
  have LP_3 : ∀ (n_3 : Nat) (v2_1 : Int32) (v3_2 : Int32), iter n_3 (b_X6_rowsOf_1 al p0) ((v2_1, v3_2)) = some out → ∀ (H : Heap) (locs : List Loc), va_P D vwCl (List.flatten [(W_M cI cC cT h0 h1 h2 h3 h4 h5 h6 h7 h8 h9 h10 hlg tk fx xl xp rmn hdn few mst fal al sv hi sn ch my kp tx rd wy)]) H → va_D A (List.flatten [(W_M cI cC cT h0 h1 h2 h3 h4 h5 h6 h7 h8 h9 h10 hlg tk fx xl xp rmn hdn few mst fal al sv hi sn ch my kp tx rd wy)]) → va_S A s.heap H locs → ∀ (ls : Array Slot), lv_has ls 4 [(0, .ref h0), (1, .int p0), (2, .int v2_1), (3, .int v3_2)] → W p l e rm_X6_rowsOf s m ([.ref h0, .int p0] : List Value).toArray below meth c H locs 0 0 (MQ below (mQi D (mTY cI cC cT) out A (List.flatten [(W_M cI cC cT h0 h1 h2 h3 h4 h5 h6 h7 h8 h9 h10 hlg tk fx xl xp rmn hdn few mst fal al sv hi sn ch my kp tx rd wy)])) ([.ref h0, .int p0] : List Value).toArray s 0 0 A) (F0 m 4 ls []) := by
    intro n_3
    induction n_3 with
    | zero => intro v2_1 v3_2 hf; exact (iter_zero hf).elim
    | succ n_3 ih_3 =>
      intro v2_1 v3_2 hf H locs hP hD hS ls hl
      obtain ⟨o_3, hf, ho_3⟩ := iter_succ hf
      dsimp only [b_X6_rowsOf_1] at hf
      refine lv_iload_n hx hb dX6_rowsOf_4 rfl (lv_at hl 3 rfl) ?_
      refine lv_aload_n hx hb dX6_rowsOf_5 rfl (lv_at hl 0 rfl) ?_
      refine va_get (D := D) (ci := 6) (v := .ref h1) (C := RX6) (T := TX6) (N := 20) hx hb hts hin_X6 hown hK hP 0 rfl rfl 0 (by decide) fl_7 (fun _ h9 => h9) rfl dX6_rowsOf_6 ?_
      refine lv_iconst (v := 0) hx hb dX6_rowsOf_9 (by decide) ?_
      refine va_iald hx hb hK hP 1 0 rfl rfl (i := 0) (by unfold vp_in; decide) dX6_rowsOf_10 ?_
      refine lv_tope (y := al 0) rfl ?_
      refine lv_icmp_ge (tgt := 38) hx hb dX6_rowsOf_11 (by decide) (fun c_4 => ?_) (fun c_4 => ?_)
      · have hf := ite_t hf c_4
        refine lv_iload_n hx hb dX6_rowsOf_38 rfl (lv_at hl 2 rfl) ?_
        cases hf
        have hf := ho_3.2 _ rfl
        cases hf
        exact mIret hx hb hr hlocks hP hD hK hS dX6_rowsOf_39
      · have hf := ite_f hf c_4
        refine lv_iload_n hx hb dX6_rowsOf_14 rfl (lv_at hl 2 rfl) ?_
        refine lv_aload_n hx hb dX6_rowsOf_15 rfl (lv_at hl 0 rfl) ?_
        refine lv_iload_n hx hb dX6_rowsOf_16 rfl (lv_at hl 3 rfl) ?_
        refine lv_iconst (v := 0) hx hb dX6_rowsOf_17 (by decide) ?_
        obtain ⟨r_5, q_6, hf⟩ := bnd hf
        refine mGoiS (segs := [(W_M cI cC cT h0 h1 h2 h3 h4 h5 h6 h7 h8 h9 h10 hlg tk fx xl xp rmn hdn few mst fal al sv hi sn ch my kp tx rd wy)]) (wcs := [(W_M cI cC cT h0 h1 h2 h3 h4 h5 h6 h7 h8 h9 h10 hlg tk fx xl xp rmn hdn few mst fal al sv hi sn ch my kp tx rd wy)]) (w1s := [(W_M cI cC cT h0 h1 h2 h3 h4 h5 h6 h7 h8 h9 h10 hlg tk fx xl xp rmn hdn few mst fal al sv hi sn ch my kp tx rd wy)]) (w2s := [(W_M cI cC cT h0 h1 h2 h3 h4 h5 h6 h7 h8 h9 h10 hlg tk fx xl xp rmn hdn few mst fal al sv hi sn ch my kp tx rd wy)]) rfl rfl (va_runV (As := [.int v3_2, .int 0]) (rest := [.int v2_1]) ⟨hx, hb, hml, hown, hts⟩ (c_X6_of l D cI cC cT h0 h1 h2 h3 h4 h5 h6 h7 h8 h9 h10 hlg tk fx xl xp rmn hdn few mst fal al sv hi sn ch my kp tx rd wy H.size v3_2 0 r_5 q_6) (cwV 2 hts gX6_rowsOf_X6_of rfl rfl rfl (by decide +kernel) ⟨Nat.le_of_ble_eq_true rfl, Nat.le_of_ble_eq_true rfl⟩) (mPreVS [(W_M cI cC cT h0 h1 h2 h3 h4 h5 h6 h7 h8 h9 h10 hlg tk fx xl xp rmn hdn few mst fal al sv hi sn ch my kp tx rd wy)] rfl hP hD hK hN [0] rfl (by decide) (va_recv hK (sP hP 0 rfl) (ci := 6) (q0 := 0) rfl rfl)) rfl rfl hl.1 rfl (lv_room (Nat.le_of_ble_eq_true rfl)) dX6_rowsOf_18 ⟨Nat.zero_le _, Nat.zero_le _⟩) hP hD hS hA [0] rfl rfl rfl rfl (fun H locs hP hD hS => ?_)
        refine lv_iload_n hx hb dX6_rowsOf_21 rfl (lv_at hl 1 rfl) ?_
        obtain ⟨x_7, q_9, hf⟩ := bnd hf
        have K_8 : ∀ (H : Heap) (locs : List Loc), va_P D vwCl (List.flatten [(W_M cI cC cT h0 h1 h2 h3 h4 h5 h6 h7 h8 h9 h10 hlg tk fx xl xp rmn hdn few mst fal al sv hi sn ch my kp tx rd wy)]) H → va_D A (List.flatten [(W_M cI cC cT h0 h1 h2 h3 h4 h5 h6 h7 h8 h9 h10 hlg tk fx xl xp rmn hdn few mst fal al sv hi sn ch my kp tx rd wy)]) → va_S A s.heap H locs → ∀ (ls : Array Slot), lv_has ls 4 [(0, .ref h0), (1, .int p0), (3, .int v3_2)] → W p l e rm_X6_rowsOf s m ([.ref h0, .int p0] : List Value).toArray below meth c H locs 0 0 (MQ below (mQi D (mTY cI cC cT) out A (List.flatten [(W_M cI cC cT h0 h1 h2 h3 h4 h5 h6 h7 h8 h9 h10 hlg tk fx xl xp rmn hdn few mst fal al sv hi sn ch my kp tx rd wy)])) ([.ref h0, .int p0] : List Value).toArray s 0 0 A) (F0 m 30 ls [.int x_7, .int v2_1]) := by
          intro H locs hP hD hS ls hl
          refine lv_iadd hx hb dX6_rowsOf_30 ?_
          refine lv_istore_n (lv' := [(2, .int (v2_1 + x_7)), (0, .ref h0), (1, .int p0), (3, .int v3_2)]) hx hb dX6_rowsOf_31 rfl hl (by decide) rfl (fun ls hl => ?_)
          refine lv_iinc (v := v3_2 + 1) (lv' := [(3, .int (v3_2 + 1)), (2, .int (v2_1 + x_7)), (0, .ref h0), (1, .int p0)]) hx hb dX6_rowsOf_32 hl (k := 3) rfl rfl (by decide) rfl (fun ls hl => ?_)
          refine lv_goto (tgt := 4) hx hb dX6_rowsOf_35 (by decide) ?_
          cases hf
          have hf := ho_3.1 _ rfl
          exact ih_3 _ _ hf _ _ hP hD hS _ (lv_sub hl [2, 3, 1, 0] rfl)
        have hf := q_9
        refine lv_icmp_ne (tgt := 29) hx hb dX6_rowsOf_22 (by decide) (fun c_10 => ?_) (fun c_10 => ?_)
        · have hf := ite_f hf c_10
          refine lv_iconst (v := 0) hx hb dX6_rowsOf_29 (by decide) ?_
          cases hf
          exact K_8 _ _ hP hD hS _ (lv_sub hl [0, 1, 3] rfl)
        · have hf := ite_t hf c_10
          refine lv_iconst (v := 1) hx hb dX6_rowsOf_25 (by decide) ?_
          refine lv_goto (tgt := 30) hx hb dX6_rowsOf_26 (by decide) ?_
          cases hf
          exact K_8 _ _ hP hD hS _ (lv_sub hl [0, 1, 3] rfl)
  exact LP_3 _ _ _ hf _ _ hP hD hS _ (lv_sub hl [2, 3, 1, 0] rfl)
abbrev rm_X6_bestRow : Room := { frames := 7, cells := 0, slots := 0, locals := 157 }
set_option maxHeartbeats 4000000 in
set_option maxRecDepth 100000 in
theorem c_X6_bestRow (l : Launch) (D : va_G) (cI cC cT : ClassId) (h0 h1 h2 h3 h4 h5 h6 h7 h8 h9 h10 : Nat) (hlg : Int32) (tk : Int32) (fx : Int32) (xl : Int32) (xp : Int32) (rmn : Int32) (hdn : Int32) (few : Int32) (mst : Int32) (fal : Int32) (al : Nat → Int32) (sv : Nat → Int32) (hi : Nat → Int32) (sn : Nat → Int32) (ch : Nat → Int32) (my : Nat → Int32) (kp : Nat → Int32) (tx : Nat → Int32) (rd : Nat → Int32) (wy : Nat → Int32) (sz : Nat) (p0 : Int32) (p1 : Int32) (out : Int32) (o_fx : Int32) (o_hdn : Int32) (o_few : Int32) (o_mst : Int32) (o_fal : Int32) (o_ch : Nat → Int32) (o_my : Nat → Int32) (o_kp : Nat → Int32) (hf : f_X6_bestRow fx al ch my kp p0 p1 = some ((out, o_fx, o_hdn, o_few, o_mst, o_fal, o_ch, o_my, o_kp))) : Met l yX6_bestRow wsX6_bestRow rm_X6_bestRow (mP D (mTY cI cC cT) [.ref h0, .int p0, .int p1] (List.flatten [(W_M cI cC cT h0 h1 h2 h3 h4 h5 h6 h7 h8 h9 h10 hlg tk fx xl xp rmn hdn few mst fal al sv hi sn ch my kp tx rd wy)]) sz) (mQi D (mTY cI cC cT) out (va_A (List.flatten [(W_M cI cC cT h0 h1 h2 h3 h4 h5 h6 h7 h8 h9 h10 hlg tk fx xl xp rmn hdn few mst fal al sv hi sn ch my kp tx rd wy)]) sz) (List.flatten [(W_M cI cC cT h0 h1 h2 h3 h4 h5 h6 h7 h8 h9 h10 hlg tk o_fx xl xp rmn o_hdn o_few o_mst o_fal al sv hi sn o_ch o_my o_kp tx rd wy)])) 0 0 (va_A (List.flatten [(W_M cI cC cT h0 h1 h2 h3 h4 h5 h6 h7 h8 h9 h10 hlg tk fx xl xp rmn hdn few mst fal al sv hi sn ch my kp tx rd wy)]) sz) := by
  refine mEnt (cc := cX6_bestRow) (maxL := 6) (ret := (some .int)) (own := RX6) (Qq := fun A => mQi D (mTY cI cC cT) out A (List.flatten [(W_M cI cC cT h0 h1 h2 h3 h4 h5 h6 h7 h8 h9 h10 hlg tk o_fx xl xp rmn o_hdn o_few o_mst o_fal al sv hi sn o_ch o_my o_kp tx rd wy)])) (by decide) rfl rfl (Nat.le_of_ble_eq_true rfl) ?_
  intro p e s m below meth c A ls H locs hx hb hr hml hlocks hown hts hN hA hP hK hD hS hl
  have hin_X6 : ∀ w ∈ u_ws RX6 TX6 20, w ∈ wsX6_bestRow := by decide +kernel
  have fl_7 := hts (.fieldLink RX6 7 "SureMendingsModel" "all" "[I") (by decide +kernel)
  have fl_31 := hts (.fieldLink RX6 31 "SureMendingsModel" "fixed" "I") (by decide +kernel)
  have hl : lv_has ls 6 [(0, .ref h0), (1, .int p0), (2, .int p1)] := hl
  unfold f_X6_bestRow at hf
  refine lv_aload_n hx hb dX6_bestRow_0 rfl (lv_at hl 0 rfl) ?_
  refine lv_iload_n hx hb dX6_bestRow_1 rfl (lv_at hl 1 rfl) ?_
  refine lv_iload_n hx hb dX6_bestRow_2 rfl (lv_at hl 2 rfl) ?_
  obtain ⟨⟨r_1, hdn_2, few_3, mst_4, fal_5, ch_6, my_7, kp_8⟩, q_9, hf⟩ := bnd hf
  refine mGoiS (segs := [(W_M cI cC cT h0 h1 h2 h3 h4 h5 h6 h7 h8 h9 h10 hlg tk fx xl xp rmn hdn few mst fal al sv hi sn ch my kp tx rd wy)]) (wcs := [(W_M cI cC cT h0 h1 h2 h3 h4 h5 h6 h7 h8 h9 h10 hlg tk fx xl xp rmn hdn few mst fal al sv hi sn ch my kp tx rd wy)]) (w1s := [(W_M cI cC cT h0 h1 h2 h3 h4 h5 h6 h7 h8 h9 h10 hlg tk fx xl xp rmn hdn_2 few_3 mst_4 fal_5 al sv hi sn ch_6 my_7 kp_8 tx rd wy)]) (w2s := [(W_M cI cC cT h0 h1 h2 h3 h4 h5 h6 h7 h8 h9 h10 hlg tk fx xl xp rmn hdn_2 few_3 mst_4 fal_5 al sv hi sn ch_6 my_7 kp_8 tx rd wy)]) rfl rfl (va_runV (As := [.int p0, .int p1]) (rest := []) ⟨hx, hb, hml, hown, hts⟩ (c_X6_isSureWay l D cI cC cT h0 h1 h2 h3 h4 h5 h6 h7 h8 h9 h10 hlg tk fx xl xp rmn hdn few mst fal al sv hi sn ch my kp tx rd wy H.size p0 p1 r_1 hdn_2 few_3 mst_4 fal_5 ch_6 my_7 kp_8 q_9) (cwV 2 hts gX6_bestRow_X6_isSureWay rfl rfl rfl (by decide +kernel) ⟨Nat.le_of_ble_eq_true rfl, Nat.le_of_ble_eq_true rfl⟩) (mPreVS [(W_M cI cC cT h0 h1 h2 h3 h4 h5 h6 h7 h8 h9 h10 hlg tk fx xl xp rmn hdn few mst fal al sv hi sn ch my kp tx rd wy)] rfl hP hD hK hN [0] rfl (by decide) (va_recv hK (sP hP 0 rfl) (ci := 6) (q0 := 0) rfl rfl)) rfl rfl hl.1 rfl (lv_room (Nat.le_of_ble_eq_true rfl)) dX6_bestRow_3 ⟨Nat.zero_le _, Nat.zero_le _⟩) hP hD hS hA [0] rfl rfl rfl rfl (fun H locs hP hD hS => ?_)
  refine lv_if_eq (tgt := 12) hx hb dX6_bestRow_6 (by decide) (fun c_10 => ?_) (fun c_10 => ?_)
  · have hf := ite_t hf c_10
    refine lv_iconst (v := 0) hx hb dX6_bestRow_12 (by decide) ?_
    refine lv_istore_n (lv' := [(3, .int 0), (0, .ref h0), (1, .int p0), (2, .int p1)]) hx hb dX6_bestRow_13 rfl hl (by decide) rfl (fun ls hl => ?_)
    have LP_20 : ∀ (n_20 : Nat) (v3_11 : Int32) (fx_12 : Int32) (hdn_13 : Int32) (few_14 : Int32) (mst_15 : Int32) (fal_16 : Int32) (ch_17 : Nat → Int32) (my_18 : Nat → Int32) (kp_19 : Nat → Int32), iter n_20 (b_X6_bestRow_2 al p0 p1) ((v3_11, fx_12, hdn_13, few_14, mst_15, fal_16, ch_17, my_18, kp_19)) = some ((out, o_fx, o_hdn, o_few, o_mst, o_fal, o_ch, o_my, o_kp)) → ∀ (H : Heap) (locs : List Loc), va_P D vwCl (List.flatten [(W_M cI cC cT h0 h1 h2 h3 h4 h5 h6 h7 h8 h9 h10 hlg tk fx_12 xl xp rmn hdn_13 few_14 mst_15 fal_16 al sv hi sn ch_17 my_18 kp_19 tx rd wy)]) H → va_D A (List.flatten [(W_M cI cC cT h0 h1 h2 h3 h4 h5 h6 h7 h8 h9 h10 hlg tk fx_12 xl xp rmn hdn_13 few_14 mst_15 fal_16 al sv hi sn ch_17 my_18 kp_19 tx rd wy)]) → va_S A s.heap H locs → ∀ (ls : Array Slot), lv_has ls 6 [(0, .ref h0), (1, .int p0), (2, .int p1), (3, .int v3_11)] → W p l e rm_X6_bestRow s m ([.ref h0, .int p0, .int p1] : List Value).toArray below meth c H locs 0 0 (MQ below (mQi D (mTY cI cC cT) out A (List.flatten [(W_M cI cC cT h0 h1 h2 h3 h4 h5 h6 h7 h8 h9 h10 hlg tk o_fx xl xp rmn o_hdn o_few o_mst o_fal al sv hi sn o_ch o_my o_kp tx rd wy)])) ([.ref h0, .int p0, .int p1] : List Value).toArray s 0 0 A) (F0 m 14 ls []) := by
      intro n_20
      induction n_20 with
      | zero => intro v3_11 fx_12 hdn_13 few_14 mst_15 fal_16 ch_17 my_18 kp_19 hf; exact (iter_zero hf).elim
      | succ n_20 ih_20 =>
        intro v3_11 fx_12 hdn_13 few_14 mst_15 fal_16 ch_17 my_18 kp_19 hf H locs hP hD hS ls hl
        obtain ⟨o_20, hf, ho_20⟩ := iter_succ hf
        dsimp only [b_X6_bestRow_2] at hf
        refine lv_iload_n hx hb dX6_bestRow_14 rfl (lv_at hl 3 rfl) ?_
        refine lv_bipush (v := 10) hx hb dX6_bestRow_15 (by decide) ?_
        refine lv_icmp_ge (tgt := 103) hx hb dX6_bestRow_17 (by decide) (fun c_21 => ?_) (fun c_21 => ?_)
        · have hf := ite_t hf c_21
          refine lv_bipush (v := -5) hx hb dX6_bestRow_103 (by decide) ?_
          cases hf
          have hf := ho_20.2 _ rfl
          cases hf
          exact mIret hx hb hr hlocks hP hD hK hS dX6_bestRow_105
        · have hf := ite_f hf c_21
          refine lv_iconst (v := 0) hx hb dX6_bestRow_20 (by decide) ?_
          refine lv_istore (lv' := [(4, .int 0), (0, .ref h0), (1, .int p0), (2, .int p1), (3, .int v3_11)]) hx hb dX6_bestRow_21 hl (by decide) rfl (fun ls hl => ?_)
          have LP_31 : ∀ (n_31 : Nat) (v4_22 : Int32) (fx_23 : Int32) (hdn_24 : Int32) (few_25 : Int32) (mst_26 : Int32) (fal_27 : Int32) (ch_28 : Nat → Int32) (my_29 : Nat → Int32) (kp_30 : Nat → Int32), iter n_31 (b_X6_bestRow_1 al p0 p1 v3_11) ((v4_22, fx_23, hdn_24, few_25, mst_26, fal_27, ch_28, my_29, kp_30)) = some o_20 → ∀ (H : Heap) (locs : List Loc), va_P D vwCl (List.flatten [(W_M cI cC cT h0 h1 h2 h3 h4 h5 h6 h7 h8 h9 h10 hlg tk fx_23 xl xp rmn hdn_24 few_25 mst_26 fal_27 al sv hi sn ch_28 my_29 kp_30 tx rd wy)]) H → va_D A (List.flatten [(W_M cI cC cT h0 h1 h2 h3 h4 h5 h6 h7 h8 h9 h10 hlg tk fx_23 xl xp rmn hdn_24 few_25 mst_26 fal_27 al sv hi sn ch_28 my_29 kp_30 tx rd wy)]) → va_S A s.heap H locs → ∀ (ls : Array Slot), lv_has ls 6 [(0, .ref h0), (1, .int p0), (2, .int p1), (3, .int v3_11), (4, .int v4_22)] → W p l e rm_X6_bestRow s m ([.ref h0, .int p0, .int p1] : List Value).toArray below meth c H locs 0 0 (MQ below (mQi D (mTY cI cC cT) out A (List.flatten [(W_M cI cC cT h0 h1 h2 h3 h4 h5 h6 h7 h8 h9 h10 hlg tk o_fx xl xp rmn o_hdn o_few o_mst o_fal al sv hi sn o_ch o_my o_kp tx rd wy)])) ([.ref h0, .int p0, .int p1] : List Value).toArray s 0 0 A) (F0 m 23 ls []) := by
            intro n_31
            induction n_31 with
            | zero => intro v4_22 fx_23 hdn_24 few_25 mst_26 fal_27 ch_28 my_29 kp_30 hf; exact (iter_zero hf).elim
            | succ n_31 ih_31 =>
              intro v4_22 fx_23 hdn_24 few_25 mst_26 fal_27 ch_28 my_29 kp_30 hf H locs hP hD hS ls hl
              obtain ⟨o_31, hf, ho_31⟩ := iter_succ hf
              dsimp only [b_X6_bestRow_1] at hf
              refine lv_iload hx hb dX6_bestRow_23 (lv_at hl 4 rfl) ?_
              refine lv_aload_n hx hb dX6_bestRow_25 rfl (lv_at hl 0 rfl) ?_
              refine va_get (D := D) (ci := 6) (v := .ref h1) (C := RX6) (T := TX6) (N := 20) hx hb hts hin_X6 hown hK hP 0 rfl rfl 0 (by decide) fl_7 (fun _ h9 => h9) rfl dX6_bestRow_26 ?_
              refine lv_iconst (v := 0) hx hb dX6_bestRow_29 (by decide) ?_
              refine va_iald hx hb hK hP 1 0 rfl rfl (i := 0) (by unfold vp_in; decide) dX6_bestRow_30 ?_
              refine lv_tope (y := al 0) rfl ?_
              refine lv_icmp_ge (tgt := 97) hx hb dX6_bestRow_31 (by decide) (fun c_32 => ?_) (fun c_32 => ?_)
              · have hf := ite_t hf c_32
                refine lv_iinc (v := v3_11 + 1) (lv' := [(3, .int (v3_11 + 1)), (0, .ref h0), (1, .int p0), (2, .int p1), (4, .int v4_22)]) hx hb dX6_bestRow_97 hl (k := 3) rfl rfl (by decide) rfl (fun ls hl => ?_)
                refine lv_goto (tgt := 14) hx hb dX6_bestRow_100 (by decide) ?_
                cases hf
                have hf := ho_31.2 _ rfl
                cases hf
                have hf := ho_20.1 _ rfl
                exact ih_20 _ _ _ _ _ _ _ _ _ hf _ _ hP hD hS _ (lv_sub hl [1, 2, 3, 0] rfl)
              · have hf := ite_f hf c_32
                refine lv_aload_n hx hb dX6_bestRow_34 rfl (lv_at hl 0 rfl) ?_
                refine lv_iload_n hx hb dX6_bestRow_35 rfl (lv_at hl 3 rfl) ?_
                obtain ⟨r_33, q_34, hf⟩ := bnd hf
                refine mGoiS (segs := [(W_M cI cC cT h0 h1 h2 h3 h4 h5 h6 h7 h8 h9 h10 hlg tk fx_23 xl xp rmn hdn_24 few_25 mst_26 fal_27 al sv hi sn ch_28 my_29 kp_30 tx rd wy)]) (wcs := [(W_M cI cC cT h0 h1 h2 h3 h4 h5 h6 h7 h8 h9 h10 hlg tk fx_23 xl xp rmn hdn_24 few_25 mst_26 fal_27 al sv hi sn ch_28 my_29 kp_30 tx rd wy)]) (w1s := [(W_M cI cC cT h0 h1 h2 h3 h4 h5 h6 h7 h8 h9 h10 hlg tk fx_23 xl xp rmn hdn_24 few_25 mst_26 fal_27 al sv hi sn ch_28 my_29 kp_30 tx rd wy)]) (w2s := [(W_M cI cC cT h0 h1 h2 h3 h4 h5 h6 h7 h8 h9 h10 hlg tk fx_23 xl xp rmn hdn_24 few_25 mst_26 fal_27 al sv hi sn ch_28 my_29 kp_30 tx rd wy)]) rfl rfl (va_runV (As := [.int v3_11]) (rest := []) ⟨hx, hb, hml, hown, hts⟩ (c_X6_rowsOf l D cI cC cT h0 h1 h2 h3 h4 h5 h6 h7 h8 h9 h10 hlg tk fx_23 xl xp rmn hdn_24 few_25 mst_26 fal_27 al sv hi sn ch_28 my_29 kp_30 tx rd wy H.size v3_11 r_33 q_34) (cwV 1 hts gX6_bestRow_X6_rowsOf rfl rfl rfl (by decide +kernel) ⟨Nat.le_of_ble_eq_true rfl, Nat.le_of_ble_eq_true rfl⟩) (mPreVS [(W_M cI cC cT h0 h1 h2 h3 h4 h5 h6 h7 h8 h9 h10 hlg tk fx_23 xl xp rmn hdn_24 few_25 mst_26 fal_27 al sv hi sn ch_28 my_29 kp_30 tx rd wy)] rfl hP hD hK hN [0] rfl (by decide) (va_recv hK (sP hP 0 rfl) (ci := 6) (q0 := 0) rfl rfl)) rfl rfl hl.1 rfl (lv_room (Nat.le_of_ble_eq_true rfl)) dX6_bestRow_36 ⟨Nat.zero_le _, Nat.zero_le _⟩) hP hD hS hA [0] rfl rfl rfl rfl (fun H locs hP hD hS => ?_)
                refine lv_iconst (v := 1) hx hb dX6_bestRow_39 (by decide) ?_
                refine lv_icmp_le (tgt := 97) hx hb dX6_bestRow_40 (by decide) (fun c_35 => ?_) (fun c_35 => ?_)
                · have hf := ite_t hf c_35
                  refine lv_iinc (v := v3_11 + 1) (lv' := [(3, .int (v3_11 + 1)), (0, .ref h0), (1, .int p0), (2, .int p1), (4, .int v4_22)]) hx hb dX6_bestRow_97 hl (k := 3) rfl rfl (by decide) rfl (fun ls hl => ?_)
                  refine lv_goto (tgt := 14) hx hb dX6_bestRow_100 (by decide) ?_
                  cases hf
                  have hf := ho_31.2 _ rfl
                  cases hf
                  have hf := ho_20.1 _ rfl
                  exact ih_20 _ _ _ _ _ _ _ _ _ hf _ _ hP hD hS _ (lv_sub hl [1, 2, 3, 0] rfl)
                · have hf := ite_f hf c_35
                  refine lv_aload_n hx hb dX6_bestRow_43 rfl (lv_at hl 0 rfl) ?_
                  refine lv_iload hx hb dX6_bestRow_44 (lv_at hl 4 rfl) ?_
                  refine lv_iconst (v := 0) hx hb dX6_bestRow_46 (by decide) ?_
                  obtain ⟨r_36, q_37, hf⟩ := bnd hf
                  refine mGoiS (segs := [(W_M cI cC cT h0 h1 h2 h3 h4 h5 h6 h7 h8 h9 h10 hlg tk fx_23 xl xp rmn hdn_24 few_25 mst_26 fal_27 al sv hi sn ch_28 my_29 kp_30 tx rd wy)]) (wcs := [(W_M cI cC cT h0 h1 h2 h3 h4 h5 h6 h7 h8 h9 h10 hlg tk fx_23 xl xp rmn hdn_24 few_25 mst_26 fal_27 al sv hi sn ch_28 my_29 kp_30 tx rd wy)]) (w1s := [(W_M cI cC cT h0 h1 h2 h3 h4 h5 h6 h7 h8 h9 h10 hlg tk fx_23 xl xp rmn hdn_24 few_25 mst_26 fal_27 al sv hi sn ch_28 my_29 kp_30 tx rd wy)]) (w2s := [(W_M cI cC cT h0 h1 h2 h3 h4 h5 h6 h7 h8 h9 h10 hlg tk fx_23 xl xp rmn hdn_24 few_25 mst_26 fal_27 al sv hi sn ch_28 my_29 kp_30 tx rd wy)]) rfl rfl (va_runV (As := [.int v4_22, .int 0]) (rest := []) ⟨hx, hb, hml, hown, hts⟩ (c_X6_of l D cI cC cT h0 h1 h2 h3 h4 h5 h6 h7 h8 h9 h10 hlg tk fx_23 xl xp rmn hdn_24 few_25 mst_26 fal_27 al sv hi sn ch_28 my_29 kp_30 tx rd wy H.size v4_22 0 r_36 q_37) (cwV 2 hts gX6_bestRow_X6_of rfl rfl rfl (by decide +kernel) ⟨Nat.le_of_ble_eq_true rfl, Nat.le_of_ble_eq_true rfl⟩) (mPreVS [(W_M cI cC cT h0 h1 h2 h3 h4 h5 h6 h7 h8 h9 h10 hlg tk fx_23 xl xp rmn hdn_24 few_25 mst_26 fal_27 al sv hi sn ch_28 my_29 kp_30 tx rd wy)] rfl hP hD hK hN [0] rfl (by decide) (va_recv hK (sP hP 0 rfl) (ci := 6) (q0 := 0) rfl rfl)) rfl rfl hl.1 rfl (lv_room (Nat.le_of_ble_eq_true rfl)) dX6_bestRow_47 ⟨Nat.zero_le _, Nat.zero_le _⟩) hP hD hS hA [0] rfl rfl rfl rfl (fun H locs hP hD hS => ?_)
                  refine lv_iload_n hx hb dX6_bestRow_50 rfl (lv_at hl 3 rfl) ?_
                  refine lv_icmp_ne (tgt := 91) hx hb dX6_bestRow_51 (by decide) (fun c_38 => ?_) (fun c_38 => ?_)
                  · have hf := ite_f hf c_38
                    refine lv_iinc (v := v4_22 + 1) (lv' := [(4, .int (v4_22 + 1)), (0, .ref h0), (1, .int p0), (2, .int p1), (3, .int v3_11)]) hx hb dX6_bestRow_91 hl (k := 4) rfl rfl (by decide) rfl (fun ls hl => ?_)
                    refine lv_goto (tgt := 23) hx hb dX6_bestRow_94 (by decide) ?_
                    cases hf
                    have hf := ho_31.1 _ rfl
                    exact ih_31 _ _ _ _ _ _ _ _ _ hf _ _ hP hD hS _ (lv_sub hl [1, 2, 3, 4, 0] rfl)
                  · have hf := ite_t hf c_38
                    refine lv_aload_n hx hb dX6_bestRow_54 rfl (lv_at hl 0 rfl) ?_
                    refine lv_iload hx hb dX6_bestRow_55 (lv_at hl 4 rfl) ?_
                    obtain ⟨r_39, q_40, hf⟩ := bnd hf
                    refine mGoiS (segs := [(W_M cI cC cT h0 h1 h2 h3 h4 h5 h6 h7 h8 h9 h10 hlg tk fx_23 xl xp rmn hdn_24 few_25 mst_26 fal_27 al sv hi sn ch_28 my_29 kp_30 tx rd wy)]) (wcs := [(W_M cI cC cT h0 h1 h2 h3 h4 h5 h6 h7 h8 h9 h10 hlg tk fx_23 xl xp rmn hdn_24 few_25 mst_26 fal_27 al sv hi sn ch_28 my_29 kp_30 tx rd wy)]) (w1s := [(W_M cI cC cT h0 h1 h2 h3 h4 h5 h6 h7 h8 h9 h10 hlg tk fx_23 xl xp rmn hdn_24 few_25 mst_26 fal_27 al sv hi sn ch_28 my_29 kp_30 tx rd wy)]) (w2s := [(W_M cI cC cT h0 h1 h2 h3 h4 h5 h6 h7 h8 h9 h10 hlg tk fx_23 xl xp rmn hdn_24 few_25 mst_26 fal_27 al sv hi sn ch_28 my_29 kp_30 tx rd wy)]) rfl rfl (va_runV (As := [.int v4_22]) (rest := []) ⟨hx, hb, hml, hown, hts⟩ (c_X6_canBeKept l D cI cC cT h0 h1 h2 h3 h4 h5 h6 h7 h8 h9 h10 hlg tk fx_23 xl xp rmn hdn_24 few_25 mst_26 fal_27 al sv hi sn ch_28 my_29 kp_30 tx rd wy H.size v4_22 r_39 q_40) (cwV 1 hts gX6_bestRow_X6_canBeKept rfl rfl rfl (by decide +kernel) ⟨Nat.le_of_ble_eq_true rfl, Nat.le_of_ble_eq_true rfl⟩) (mPreVS [(W_M cI cC cT h0 h1 h2 h3 h4 h5 h6 h7 h8 h9 h10 hlg tk fx_23 xl xp rmn hdn_24 few_25 mst_26 fal_27 al sv hi sn ch_28 my_29 kp_30 tx rd wy)] rfl hP hD hK hN [0] rfl (by decide) (va_recv hK (sP hP 0 rfl) (ci := 6) (q0 := 0) rfl rfl)) rfl rfl hl.1 rfl (lv_room (Nat.le_of_ble_eq_true rfl)) dX6_bestRow_57 ⟨Nat.zero_le _, Nat.zero_le _⟩) hP hD hS hA [0] rfl rfl rfl rfl (fun H locs hP hD hS => ?_)
                    refine lv_if_eq (tgt := 91) hx hb dX6_bestRow_60 (by decide) (fun c_41 => ?_) (fun c_41 => ?_)
                    · have hf := ite_t hf c_41
                      refine lv_iinc (v := v4_22 + 1) (lv' := [(4, .int (v4_22 + 1)), (0, .ref h0), (1, .int p0), (2, .int p1), (3, .int v3_11)]) hx hb dX6_bestRow_91 hl (k := 4) rfl rfl (by decide) rfl (fun ls hl => ?_)
                      refine lv_goto (tgt := 23) hx hb dX6_bestRow_94 (by decide) ?_
                      cases hf
                      have hf := ho_31.1 _ rfl
                      exact ih_31 _ _ _ _ _ _ _ _ _ hf _ _ hP hD hS _ (lv_sub hl [1, 2, 3, 4, 0] rfl)
                    · have hf := ite_f hf c_41
                      refine lv_aload_n hx hb dX6_bestRow_63 rfl (lv_at hl 0 rfl) ?_
                      refine lv_iload hx hb dX6_bestRow_64 (lv_at hl 4 rfl) ?_
                      refine va_put (D := D) (ci := 6) (v := .int v4_22) (ty := .int) (C := RX6) (T := TX6) (N := 20) hx hb hts hin_X6 tyX6 tyX6_ok nmX6 hown hK hP hD hS 0 rfl rfl 9 (by decide) fl_31 (fun _ h9 => h9) rfl (by decide +kernel) rfl rfl (Nat.le_of_ble_eq_true rfl) dX6_bestRow_66 (fun H locs hP hD hS => ?_)
                      have hP : va_P D vwCl (List.flatten [(W_M cI cC cT h0 h1 h2 h3 h4 h5 h6 h7 h8 h9 h10 hlg tk v4_22 xl xp rmn hdn_24 few_25 mst_26 fal_27 al sv hi sn ch_28 my_29 kp_30 tx rd wy)]) H := hP
                      have hD : va_D A (List.flatten [(W_M cI cC cT h0 h1 h2 h3 h4 h5 h6 h7 h8 h9 h10 hlg tk v4_22 xl xp rmn hdn_24 few_25 mst_26 fal_27 al sv hi sn ch_28 my_29 kp_30 tx rd wy)]) := hD
                      refine lv_aload_n hx hb dX6_bestRow_69 rfl (lv_at hl 0 rfl) ?_
                      refine lv_iload_n hx hb dX6_bestRow_70 rfl (lv_at hl 1 rfl) ?_
                      refine lv_iload_n hx hb dX6_bestRow_71 rfl (lv_at hl 2 rfl) ?_
                      obtain ⟨⟨r_42, hdn_43, few_44, mst_45, fal_46, ch_47, my_48, kp_49⟩, q_50, hf⟩ := bnd hf
                      refine mGoiS (segs := [(W_M cI cC cT h0 h1 h2 h3 h4 h5 h6 h7 h8 h9 h10 hlg tk v4_22 xl xp rmn hdn_24 few_25 mst_26 fal_27 al sv hi sn ch_28 my_29 kp_30 tx rd wy)]) (wcs := [(W_M cI cC cT h0 h1 h2 h3 h4 h5 h6 h7 h8 h9 h10 hlg tk v4_22 xl xp rmn hdn_24 few_25 mst_26 fal_27 al sv hi sn ch_28 my_29 kp_30 tx rd wy)]) (w1s := [(W_M cI cC cT h0 h1 h2 h3 h4 h5 h6 h7 h8 h9 h10 hlg tk v4_22 xl xp rmn hdn_43 few_44 mst_45 fal_46 al sv hi sn ch_47 my_48 kp_49 tx rd wy)]) (w2s := [(W_M cI cC cT h0 h1 h2 h3 h4 h5 h6 h7 h8 h9 h10 hlg tk v4_22 xl xp rmn hdn_43 few_44 mst_45 fal_46 al sv hi sn ch_47 my_48 kp_49 tx rd wy)]) rfl rfl (va_runV (As := [.int p0, .int p1]) (rest := []) ⟨hx, hb, hml, hown, hts⟩ (c_X6_isSureWay l D cI cC cT h0 h1 h2 h3 h4 h5 h6 h7 h8 h9 h10 hlg tk v4_22 xl xp rmn hdn_24 few_25 mst_26 fal_27 al sv hi sn ch_28 my_29 kp_30 tx rd wy H.size p0 p1 r_42 hdn_43 few_44 mst_45 fal_46 ch_47 my_48 kp_49 q_50) (cwV 2 hts gX6_bestRow_X6_isSureWay rfl rfl rfl (by decide +kernel) ⟨Nat.le_of_ble_eq_true rfl, Nat.le_of_ble_eq_true rfl⟩) (mPreVS [(W_M cI cC cT h0 h1 h2 h3 h4 h5 h6 h7 h8 h9 h10 hlg tk v4_22 xl xp rmn hdn_24 few_25 mst_26 fal_27 al sv hi sn ch_28 my_29 kp_30 tx rd wy)] rfl hP hD hK hN [0] rfl (by decide) (va_recv hK (sP hP 0 rfl) (ci := 6) (q0 := 0) rfl rfl)) rfl rfl hl.1 rfl (lv_room (Nat.le_of_ble_eq_true rfl)) dX6_bestRow_72 ⟨Nat.zero_le _, Nat.zero_le _⟩) hP hD hS hA [0] rfl rfl rfl rfl (fun H locs hP hD hS => ?_)
                      refine lv_istore (lv' := [(5, .int r_42), (0, .ref h0), (1, .int p0), (2, .int p1), (3, .int v3_11), (4, .int v4_22)]) hx hb dX6_bestRow_75 hl (by decide) rfl (fun ls hl => ?_)
                      refine lv_aload_n hx hb dX6_bestRow_77 rfl (lv_at hl 1 rfl) ?_
                      refine lv_bipush (v := -5) hx hb dX6_bestRow_78 (by decide) ?_
                      refine va_put (D := D) (ci := 6) (v := .int (-5)) (ty := .int) (C := RX6) (T := TX6) (N := 20) hx hb hts hin_X6 tyX6 tyX6_ok nmX6 hown hK hP hD hS 0 rfl rfl 9 (by decide) fl_31 (fun _ h9 => h9) rfl (by decide +kernel) rfl rfl (Nat.le_of_ble_eq_true rfl) dX6_bestRow_80 (fun H locs hP hD hS => ?_)
                      have hP : va_P D vwCl (List.flatten [(W_M cI cC cT h0 h1 h2 h3 h4 h5 h6 h7 h8 h9 h10 hlg tk (-5) xl xp rmn hdn_43 few_44 mst_45 fal_46 al sv hi sn ch_47 my_48 kp_49 tx rd wy)]) H := hP
                      have hD : va_D A (List.flatten [(W_M cI cC cT h0 h1 h2 h3 h4 h5 h6 h7 h8 h9 h10 hlg tk (-5) xl xp rmn hdn_43 few_44 mst_45 fal_46 al sv hi sn ch_47 my_48 kp_49 tx rd wy)]) := hD
                      refine lv_iload hx hb dX6_bestRow_83 (lv_at hl 0 rfl) ?_
                      refine lv_if_eq (tgt := 91) hx hb dX6_bestRow_85 (by decide) (fun c_51 => ?_) (fun c_51 => ?_)
                      · have hf := ite_t hf c_51
                        refine lv_iinc (v := v4_22 + 1) (lv' := [(4, .int (v4_22 + 1)), (5, .int r_42), (0, .ref h0), (1, .int p0), (2, .int p1), (3, .int v3_11)]) hx hb dX6_bestRow_91 hl (k := 5) rfl rfl (by decide) rfl (fun ls hl => ?_)
                        refine lv_goto (tgt := 23) hx hb dX6_bestRow_94 (by decide) ?_
                        cases hf
                        have hf := ho_31.1 _ rfl
                        exact ih_31 _ _ _ _ _ _ _ _ _ hf _ _ hP hD hS _ (lv_sub hl [2, 3, 4, 5, 0] rfl)
                      · have hf := ite_f hf c_51
                        refine lv_iload hx hb dX6_bestRow_88 (lv_at hl 5 rfl) ?_
                        cases hf
                        have hf := ho_31.2 _ rfl
                        cases hf
                        have hf := ho_20.2 _ rfl
                        cases hf
                        exact mIret hx hb hr hlocks hP hD hK hS dX6_bestRow_90
          exact LP_31 _ _ _ _ _ _ _ _ _ _ hf _ _ hP hD hS _ (lv_sub hl [1, 2, 3, 4, 0] rfl)
    exact LP_20 _ _ _ _ _ _ _ _ _ _ hf _ _ hP hD hS _ (lv_sub hl [1, 2, 3, 0] rfl)
  · have hf := ite_f hf c_10
    refine lv_bipush (v := -5) hx hb dX6_bestRow_9 (by decide) ?_
    cases hf
    exact mIret hx hb hr hlocks hP hD hK hS dX6_bestRow_11
abbrev rm_X6_bestMended : Room := { frames := 8, cells := 0, slots := 0, locals := 182 }
set_option maxHeartbeats 4000000 in
set_option maxRecDepth 100000 in
theorem c_X6_bestMended (l : Launch) (D : va_G) (cI cC cT : ClassId) (h0 h1 h2 h3 h4 h5 h6 h7 h8 h9 h10 : Nat) (hlg : Int32) (tk : Int32) (fx : Int32) (xl : Int32) (xp : Int32) (rmn : Int32) (hdn : Int32) (few : Int32) (mst : Int32) (fal : Int32) (al : Nat → Int32) (sv : Nat → Int32) (hi : Nat → Int32) (sn : Nat → Int32) (ch : Nat → Int32) (my : Nat → Int32) (kp : Nat → Int32) (tx : Nat → Int32) (rd : Nat → Int32) (wy : Nat → Int32) (sz : Nat) (p0 : Int32) (p1 : Int32) (p2 : Int32) (out : Int32) (o_fx : Int32) (o_hdn : Int32) (o_few : Int32) (o_mst : Int32) (o_fal : Int32) (o_ch : Nat → Int32) (o_my : Nat → Int32) (o_kp : Nat → Int32) (hf : f_X6_bestMended fx hdn few mst fal al ch my kp p0 p1 p2 = some ((out, o_fx, o_hdn, o_few, o_mst, o_fal, o_ch, o_my, o_kp))) : Met l yX6_bestMended wsX6_bestMended rm_X6_bestMended (mP D (mTY cI cC cT) [.ref h0, .int p0, .int p1, .int p2] (List.flatten [(W_M cI cC cT h0 h1 h2 h3 h4 h5 h6 h7 h8 h9 h10 hlg tk fx xl xp rmn hdn few mst fal al sv hi sn ch my kp tx rd wy)]) sz) (mQi D (mTY cI cC cT) out (va_A (List.flatten [(W_M cI cC cT h0 h1 h2 h3 h4 h5 h6 h7 h8 h9 h10 hlg tk fx xl xp rmn hdn few mst fal al sv hi sn ch my kp tx rd wy)]) sz) (List.flatten [(W_M cI cC cT h0 h1 h2 h3 h4 h5 h6 h7 h8 h9 h10 hlg tk o_fx xl xp rmn o_hdn o_few o_mst o_fal al sv hi sn o_ch o_my o_kp tx rd wy)])) 0 0 (va_A (List.flatten [(W_M cI cC cT h0 h1 h2 h3 h4 h5 h6 h7 h8 h9 h10 hlg tk fx xl xp rmn hdn few mst fal al sv hi sn ch my kp tx rd wy)]) sz) := by
  refine mEnt (cc := cX6_bestMended) (maxL := 5) (ret := (some .int)) (own := RX6) (Qq := fun A => mQi D (mTY cI cC cT) out A (List.flatten [(W_M cI cC cT h0 h1 h2 h3 h4 h5 h6 h7 h8 h9 h10 hlg tk o_fx xl xp rmn o_hdn o_few o_mst o_fal al sv hi sn o_ch o_my o_kp tx rd wy)])) (by decide) rfl rfl (Nat.le_of_ble_eq_true rfl) ?_
  intro p e s m below meth c A ls H locs hx hb hr hml hlocks hown hts hN hA hP hK hD hS hl
  have hl : lv_has ls 5 [(0, .ref h0), (1, .int p0), (2, .int p1), (3, .int p2)] := hl
  unfold f_X6_bestMended at hf
  refine lv_iload_n hx hb dX6_bestMended_0 rfl (lv_at hl 1 rfl) ?_
  obtain ⟨r_1, q_2, hf⟩ := bnd hf
  refine mGoiS (segs := [(W_M cI cC cT h0 h1 h2 h3 h4 h5 h6 h7 h8 h9 h10 hlg tk fx xl xp rmn hdn few mst fal al sv hi sn ch my kp tx rd wy)]) (wcs := []) (w1s := []) (w2s := [(W_M cI cC cT h0 h1 h2 h3 h4 h5 h6 h7 h8 h9 h10 hlg tk fx xl xp rmn hdn few mst fal al sv hi sn ch my kp tx rd wy)]) rfl rfl (va_runS (As := [.int p0]) (rest := []) ⟨hx, hb, hml, hown, hts⟩ (c_X6_isKey l D cI cC cT H.size p0 r_1 q_2) (va_cwS 1 hts gX6_bestMended_X6_isKey rfl rfl rfl (by decide +kernel) ⟨Nat.le_of_ble_eq_true rfl, Nat.le_of_ble_eq_true rfl⟩) (mPreSS [] rfl hP hD hK hN [] rfl (by decide)) rfl rfl hl.1 rfl (lv_room (Nat.le_of_ble_eq_true rfl)) dX6_bestMended_1 ⟨Nat.zero_le _, Nat.zero_le _⟩) hP hD hS hA [] rfl rfl rfl rfl (fun H locs hP hD hS => ?_)
  refine lv_if_eq (tgt := 14) hx hb dX6_bestMended_4 (by decide) (fun c_3 => ?_) (fun c_3 => ?_)
  · have hf := ite_t hf c_3
    refine lv_iconst (v := -1) hx hb dX6_bestMended_14 (by decide) ?_
    cases hf
    exact mIret hx hb hr hlocks hP hD hK hS dX6_bestMended_15
  · have hf := ite_f hf c_3
    refine lv_iload_n hx hb dX6_bestMended_7 rfl (lv_at hl 2 rfl) ?_
    obtain ⟨r_4, q_5, hf⟩ := bnd hf
    refine mGoiS (segs := [(W_M cI cC cT h0 h1 h2 h3 h4 h5 h6 h7 h8 h9 h10 hlg tk fx xl xp rmn hdn few mst fal al sv hi sn ch my kp tx rd wy)]) (wcs := []) (w1s := []) (w2s := [(W_M cI cC cT h0 h1 h2 h3 h4 h5 h6 h7 h8 h9 h10 hlg tk fx xl xp rmn hdn few mst fal al sv hi sn ch my kp tx rd wy)]) rfl rfl (va_runS (As := [.int p1]) (rest := []) ⟨hx, hb, hml, hown, hts⟩ (c_X6_isKey l D cI cC cT H.size p1 r_4 q_5) (va_cwS 1 hts gX6_bestMended_X6_isKey rfl rfl rfl (by decide +kernel) ⟨Nat.le_of_ble_eq_true rfl, Nat.le_of_ble_eq_true rfl⟩) (mPreSS [] rfl hP hD hK hN [] rfl (by decide)) rfl rfl hl.1 rfl (lv_room (Nat.le_of_ble_eq_true rfl)) dX6_bestMended_8 ⟨Nat.zero_le _, Nat.zero_le _⟩) hP hD hS hA [] rfl rfl rfl rfl (fun H locs hP hD hS => ?_)
    refine lv_if_ne (tgt := 16) hx hb dX6_bestMended_11 (by decide) (fun c_6 => ?_) (fun c_6 => ?_)
    · have hf := ite_f hf c_6
      refine lv_iload_n hx hb dX6_bestMended_16 rfl (lv_at hl 3 rfl) ?_
      refine lv_i2l hx hb dX6_bestMended_17 rfl ?_
      refine lv_lconst (v := 0) hx hb dX6_bestMended_18 rfl ?_
      refine lv_lconst (v := 1) hx hb dX6_bestMended_19 rfl ?_
      obtain ⟨r_7, q_8, hf⟩ := bnd hf
      refine mGoiS (segs := [(W_M cI cC cT h0 h1 h2 h3 h4 h5 h6 h7 h8 h9 h10 hlg tk fx xl xp rmn hdn few mst fal al sv hi sn ch my kp tx rd wy)]) (wcs := []) (w1s := []) (w2s := [(W_M cI cC cT h0 h1 h2 h3 h4 h5 h6 h7 h8 h9 h10 hlg tk fx xl xp rmn hdn few mst fal al sv hi sn ch my kp tx rd wy)]) rfl rfl (va_runS (As := [.long (Int32.toInt64 p2), .long 0, .long 1]) (rest := []) ⟨hx, hb, hml, hown, hts⟩ (c_X6_in l D cI cC cT H.size (Int32.toInt64 p2) 0 1 r_7 q_8) (va_cwS 3 hts gX6_bestMended_X6_in rfl rfl rfl (by decide +kernel) ⟨Nat.le_of_ble_eq_true rfl, Nat.le_of_ble_eq_true rfl⟩) (mPreSS [] rfl hP hD hK hN [] rfl (by decide)) rfl rfl hl.1 rfl (lv_room (Nat.le_of_ble_eq_true rfl)) dX6_bestMended_20 ⟨Nat.zero_le _, Nat.zero_le _⟩) hP hD hS hA [] rfl rfl rfl rfl (fun H locs hP hD hS => ?_)
      refine lv_if_ne (tgt := 29) hx hb dX6_bestMended_23 (by decide) (fun c_9 => ?_) (fun c_9 => ?_)
      · have hf := ite_f hf c_9
        refine lv_aload_n hx hb dX6_bestMended_29 rfl (lv_at hl 0 rfl) ?_
        refine lv_iload_n hx hb dX6_bestMended_30 rfl (lv_at hl 1 rfl) ?_
        refine lv_iload_n hx hb dX6_bestMended_31 rfl (lv_at hl 2 rfl) ?_
        obtain ⟨⟨r_10, fx_11, hdn_12, few_13, mst_14, fal_15, ch_16, my_17, kp_18⟩, q_19, hf⟩ := bnd hf
        refine mGoiS (segs := [(W_M cI cC cT h0 h1 h2 h3 h4 h5 h6 h7 h8 h9 h10 hlg tk fx xl xp rmn hdn few mst fal al sv hi sn ch my kp tx rd wy)]) (wcs := [(W_M cI cC cT h0 h1 h2 h3 h4 h5 h6 h7 h8 h9 h10 hlg tk fx xl xp rmn hdn few mst fal al sv hi sn ch my kp tx rd wy)]) (w1s := [(W_M cI cC cT h0 h1 h2 h3 h4 h5 h6 h7 h8 h9 h10 hlg tk fx_11 xl xp rmn hdn_12 few_13 mst_14 fal_15 al sv hi sn ch_16 my_17 kp_18 tx rd wy)]) (w2s := [(W_M cI cC cT h0 h1 h2 h3 h4 h5 h6 h7 h8 h9 h10 hlg tk fx_11 xl xp rmn hdn_12 few_13 mst_14 fal_15 al sv hi sn ch_16 my_17 kp_18 tx rd wy)]) rfl rfl (va_runV (As := [.int p0, .int p1]) (rest := []) ⟨hx, hb, hml, hown, hts⟩ (c_X6_bestRow l D cI cC cT h0 h1 h2 h3 h4 h5 h6 h7 h8 h9 h10 hlg tk fx xl xp rmn hdn few mst fal al sv hi sn ch my kp tx rd wy H.size p0 p1 r_10 fx_11 hdn_12 few_13 mst_14 fal_15 ch_16 my_17 kp_18 q_19) (cwV 2 hts gX6_bestMended_X6_bestRow rfl rfl rfl (by decide +kernel) ⟨Nat.le_of_ble_eq_true rfl, Nat.le_of_ble_eq_true rfl⟩) (mPreVS [(W_M cI cC cT h0 h1 h2 h3 h4 h5 h6 h7 h8 h9 h10 hlg tk fx xl xp rmn hdn few mst fal al sv hi sn ch my kp tx rd wy)] rfl hP hD hK hN [0] rfl (by decide) (va_recv hK (sP hP 0 rfl) (ci := 6) (q0 := 0) rfl rfl)) rfl rfl hl.1 rfl (lv_room (Nat.le_of_ble_eq_true rfl)) dX6_bestMended_32 ⟨Nat.zero_le _, Nat.zero_le _⟩) hP hD hS hA [0] rfl rfl rfl rfl (fun H locs hP hD hS => ?_)
        refine lv_istore (lv' := [(4, .int r_10), (0, .ref h0), (1, .int p0), (2, .int p1), (3, .int p2)]) hx hb dX6_bestMended_35 hl (by decide) rfl (fun ls hl => ?_)
        refine lv_iload hx hb dX6_bestMended_37 (lv_at hl 0 rfl) ?_
        refine lv_bipush (v := -5) hx hb dX6_bestMended_39 (by decide) ?_
        refine lv_icmp_eq (tgt := 49) hx hb dX6_bestMended_41 (by decide) (fun c_20 => ?_) (fun c_20 => ?_)
        · have hf := ite_t hf c_20
          refine lv_iload hx hb dX6_bestMended_49 (lv_at hl 0 rfl) ?_
          refine lv_goto (tgt := 61) hx hb dX6_bestMended_51 (by decide) ?_
          cases hf
          exact mIret hx hb hr hlocks hP hD hK hS dX6_bestMended_61
        · have hf := ite_f hf c_20
          refine lv_iload_n hx hb dX6_bestMended_44 rfl (lv_at hl 4 rfl) ?_
          refine lv_iconst (v := 1) hx hb dX6_bestMended_45 (by decide) ?_
          refine lv_icmp_ne (tgt := 54) hx hb dX6_bestMended_46 (by decide) (fun c_21 => ?_) (fun c_21 => ?_)
          · have hf := ite_f hf c_21
            refine lv_aload_n hx hb dX6_bestMended_54 rfl (lv_at hl 1 rfl) ?_
            refine lv_iload hx hb dX6_bestMended_55 (lv_at hl 0 rfl) ?_
            refine lv_iconst (v := 0) hx hb dX6_bestMended_57 (by decide) ?_
            obtain ⟨r_22, q_23, hf⟩ := bnd hf
            refine mGoiS (segs := [(W_M cI cC cT h0 h1 h2 h3 h4 h5 h6 h7 h8 h9 h10 hlg tk fx_11 xl xp rmn hdn_12 few_13 mst_14 fal_15 al sv hi sn ch_16 my_17 kp_18 tx rd wy)]) (wcs := [(W_M cI cC cT h0 h1 h2 h3 h4 h5 h6 h7 h8 h9 h10 hlg tk fx_11 xl xp rmn hdn_12 few_13 mst_14 fal_15 al sv hi sn ch_16 my_17 kp_18 tx rd wy)]) (w1s := [(W_M cI cC cT h0 h1 h2 h3 h4 h5 h6 h7 h8 h9 h10 hlg tk fx_11 xl xp rmn hdn_12 few_13 mst_14 fal_15 al sv hi sn ch_16 my_17 kp_18 tx rd wy)]) (w2s := [(W_M cI cC cT h0 h1 h2 h3 h4 h5 h6 h7 h8 h9 h10 hlg tk fx_11 xl xp rmn hdn_12 few_13 mst_14 fal_15 al sv hi sn ch_16 my_17 kp_18 tx rd wy)]) rfl rfl (va_runV (As := [.int r_10, .int 0]) (rest := []) ⟨hx, hb, hml, hown, hts⟩ (c_X6_of l D cI cC cT h0 h1 h2 h3 h4 h5 h6 h7 h8 h9 h10 hlg tk fx_11 xl xp rmn hdn_12 few_13 mst_14 fal_15 al sv hi sn ch_16 my_17 kp_18 tx rd wy H.size r_10 0 r_22 q_23) (cwV 2 hts gX6_bestMended_X6_of rfl rfl rfl (by decide +kernel) ⟨Nat.le_of_ble_eq_true rfl, Nat.le_of_ble_eq_true rfl⟩) (mPreVS [(W_M cI cC cT h0 h1 h2 h3 h4 h5 h6 h7 h8 h9 h10 hlg tk fx_11 xl xp rmn hdn_12 few_13 mst_14 fal_15 al sv hi sn ch_16 my_17 kp_18 tx rd wy)] rfl hP hD hK hN [0] rfl (by decide) (va_recv hK (sP hP 0 rfl) (ci := 6) (q0 := 0) rfl rfl)) rfl rfl hl.1 rfl (lv_room (Nat.le_of_ble_eq_true rfl)) dX6_bestMended_58 ⟨Nat.zero_le _, Nat.zero_le _⟩) hP hD hS hA [0] rfl rfl rfl rfl (fun H locs hP hD hS => ?_)
            cases hf
            exact mIret hx hb hr hlocks hP hD hK hS dX6_bestMended_61
          · have hf := ite_t hf c_21
            refine lv_iload hx hb dX6_bestMended_49 (lv_at hl 0 rfl) ?_
            refine lv_goto (tgt := 61) hx hb dX6_bestMended_51 (by decide) ?_
            cases hf
            exact mIret hx hb hr hlocks hP hD hK hS dX6_bestMended_61
      · have hf := ite_t hf c_9
        refine lv_bipush (v := -2) hx hb dX6_bestMended_26 (by decide) ?_
        cases hf
        exact mIret hx hb hr hlocks hP hD hK hS dX6_bestMended_28
    · have hf := ite_t hf c_6
      refine lv_iconst (v := -1) hx hb dX6_bestMended_14 (by decide) ?_
      cases hf
      exact mIret hx hb hr hlocks hP hD hK hS dX6_bestMended_15
abbrev rm_X6_clearText : Room := { frames := 0, cells := 0, slots := 0, locals := 0 }
set_option maxHeartbeats 4000000 in
set_option maxRecDepth 100000 in
theorem c_X6_clearText (l : Launch) (D : va_G) (cI cC cT : ClassId) (h0 h1 h2 h3 h4 h5 h6 h7 h8 h9 h10 : Nat) (hlg : Int32) (tk : Int32) (fx : Int32) (xl : Int32) (xp : Int32) (rmn : Int32) (hdn : Int32) (few : Int32) (mst : Int32) (fal : Int32) (al : Nat → Int32) (sv : Nat → Int32) (hi : Nat → Int32) (sn : Nat → Int32) (ch : Nat → Int32) (my : Nat → Int32) (kp : Nat → Int32) (tx : Nat → Int32) (rd : Nat → Int32) (wy : Nat → Int32) (sz : Nat) (out : Int32) (o_xl : Int32) (hf : f_X6_clearText xl = some ((out, o_xl))) : Met l yX6_clearText wsX6_clearText rm_X6_clearText (mP D (mTY cI cC cT) [.ref h0] (List.flatten [(W_M cI cC cT h0 h1 h2 h3 h4 h5 h6 h7 h8 h9 h10 hlg tk fx xl xp rmn hdn few mst fal al sv hi sn ch my kp tx rd wy)]) sz) (mQi D (mTY cI cC cT) out (va_A (List.flatten [(W_M cI cC cT h0 h1 h2 h3 h4 h5 h6 h7 h8 h9 h10 hlg tk fx xl xp rmn hdn few mst fal al sv hi sn ch my kp tx rd wy)]) sz) (List.flatten [(W_M cI cC cT h0 h1 h2 h3 h4 h5 h6 h7 h8 h9 h10 hlg tk fx o_xl xp rmn hdn few mst fal al sv hi sn ch my kp tx rd wy)])) 0 0 (va_A (List.flatten [(W_M cI cC cT h0 h1 h2 h3 h4 h5 h6 h7 h8 h9 h10 hlg tk fx xl xp rmn hdn few mst fal al sv hi sn ch my kp tx rd wy)]) sz) := by
  refine mEnt (cc := cX6_clearText) (maxL := 2) (ret := (some .int)) (own := RX6) (Qq := fun A => mQi D (mTY cI cC cT) out A (List.flatten [(W_M cI cC cT h0 h1 h2 h3 h4 h5 h6 h7 h8 h9 h10 hlg tk fx o_xl xp rmn hdn few mst fal al sv hi sn ch my kp tx rd wy)])) (by decide) rfl rfl (Nat.le_of_ble_eq_true rfl) ?_
  intro p e s m below meth c A ls H locs hx hb hr hml hlocks hown hts hN hA hP hK hD hS hl
  have hin_X6 : ∀ w ∈ u_ws RX6 TX6 20, w ∈ wsX6_clearText := by decide +kernel
  have fl_116 := hts (.fieldLink RX6 116 "SureMendingsModel" "textLong" "I") (by decide +kernel)
  have hl : lv_has ls 2 [(0, .ref h0)] := hl
  unfold f_X6_clearText at hf
  refine lv_aload_n hx hb dX6_clearText_0 rfl (lv_at hl 0 rfl) ?_
  refine va_get (D := D) (ci := 6) (v := .int xl) (C := RX6) (T := TX6) (N := 20) hx hb hts hin_X6 hown hK hP 0 rfl rfl 11 (by decide) fl_116 (fun _ h9 => h9) rfl dX6_clearText_1 ?_
  refine lv_istore_n (lv' := [(1, .int xl), (0, .ref h0)]) hx hb dX6_clearText_4 rfl hl (by decide) rfl (fun ls hl => ?_)
  refine lv_aload_n hx hb dX6_clearText_5 rfl (lv_at hl 1 rfl) ?_
  refine lv_iconst (v := 0) hx hb dX6_clearText_6 (by decide) ?_
  refine va_put (D := D) (ci := 6) (v := .int 0) (ty := .int) (C := RX6) (T := TX6) (N := 20) hx hb hts hin_X6 tyX6 tyX6_ok nmX6 hown hK hP hD hS 0 rfl rfl 11 (by decide) fl_116 (fun _ h9 => h9) rfl (by decide +kernel) rfl rfl (Nat.le_of_ble_eq_true rfl) dX6_clearText_7 (fun H locs hP hD hS => ?_)
  have hP : va_P D vwCl (List.flatten [(W_M cI cC cT h0 h1 h2 h3 h4 h5 h6 h7 h8 h9 h10 hlg tk fx 0 xp rmn hdn few mst fal al sv hi sn ch my kp tx rd wy)]) H := hP
  have hD : va_D A (List.flatten [(W_M cI cC cT h0 h1 h2 h3 h4 h5 h6 h7 h8 h9 h10 hlg tk fx 0 xp rmn hdn few mst fal al sv hi sn ch my kp tx rd wy)]) := hD
  refine lv_iload_n hx hb dX6_clearText_10 rfl (lv_at hl 0 rfl) ?_
  cases hf
  exact mIret hx hb hr hlocks hP hD hK hS dX6_clearText_11
abbrev rm_X6_keysWith : Room := { frames := 2, cells := 0, slots := 0, locals := 45 }
set_option maxHeartbeats 4000000 in
set_option maxRecDepth 100000 in
theorem c_X6_keysWith (l : Launch) (D : va_G) (cI cC cT : ClassId) (h0 h1 h2 h3 h4 h5 h6 h7 h8 h9 h10 : Nat) (hlg : Int32) (tk : Int32) (fx : Int32) (xl : Int32) (xp : Int32) (rmn : Int32) (hdn : Int32) (few : Int32) (mst : Int32) (fal : Int32) (al : Nat → Int32) (sv : Nat → Int32) (hi : Nat → Int32) (sn : Nat → Int32) (ch : Nat → Int32) (my : Nat → Int32) (kp : Nat → Int32) (tx : Nat → Int32) (rd : Nat → Int32) (wy : Nat → Int32) (sz : Nat) (p0 : Int32) (out : Int32) (hf : f_X6_keysWith al p0 = some out) : Met l yX6_keysWith wsX6_keysWith rm_X6_keysWith (mP D (mTY cI cC cT) [.ref h0, .int p0] (List.flatten [(W_M cI cC cT h0 h1 h2 h3 h4 h5 h6 h7 h8 h9 h10 hlg tk fx xl xp rmn hdn few mst fal al sv hi sn ch my kp tx rd wy)]) sz) (mQi D (mTY cI cC cT) out (va_A (List.flatten [(W_M cI cC cT h0 h1 h2 h3 h4 h5 h6 h7 h8 h9 h10 hlg tk fx xl xp rmn hdn few mst fal al sv hi sn ch my kp tx rd wy)]) sz) (List.flatten [(W_M cI cC cT h0 h1 h2 h3 h4 h5 h6 h7 h8 h9 h10 hlg tk fx xl xp rmn hdn few mst fal al sv hi sn ch my kp tx rd wy)])) 0 0 (va_A (List.flatten [(W_M cI cC cT h0 h1 h2 h3 h4 h5 h6 h7 h8 h9 h10 hlg tk fx xl xp rmn hdn few mst fal al sv hi sn ch my kp tx rd wy)]) sz) := by
  refine mEnt (cc := cX6_keysWith) (maxL := 4) (ret := (some .int)) (own := RX6) (Qq := fun A => mQi D (mTY cI cC cT) out A (List.flatten [(W_M cI cC cT h0 h1 h2 h3 h4 h5 h6 h7 h8 h9 h10 hlg tk fx xl xp rmn hdn few mst fal al sv hi sn ch my kp tx rd wy)])) (by decide) rfl rfl (Nat.le_of_ble_eq_true rfl) ?_
  intro p e s m below meth c A ls H locs hx hb hr hml hlocks hown hts hN hA hP hK hD hS hl
  have hl : lv_has ls 4 [(0, .ref h0), (1, .int p0)] := hl
  unfold f_X6_keysWith at hf
  refine lv_iconst (v := 0) hx hb dX6_keysWith_0 (by decide) ?_
  refine lv_istore_n (lv' := [(2, .int 0), (0, .ref h0), (1, .int p0)]) hx hb dX6_keysWith_1 rfl hl (by decide) rfl (fun ls hl => ?_)
  refine lv_iconst (v := 0) hx hb dX6_keysWith_2 (by decide) ?_
  refine lv_istore_n (lv' := [(3, .int 0), (2, .int 0), (0, .ref h0), (1, .int p0)]) hx hb dX6_keysWith_3 rfl hl (by decide) rfl (fun ls hl => ?_)
  have LP_3 : ∀ (n_3 : Nat) (v2_1 : Int32) (v3_2 : Int32), iter n_3 (b_X6_keysWith_1 al p0) ((v2_1, v3_2)) = some out → ∀ (H : Heap) (locs : List Loc), va_P D vwCl (List.flatten [(W_M cI cC cT h0 h1 h2 h3 h4 h5 h6 h7 h8 h9 h10 hlg tk fx xl xp rmn hdn few mst fal al sv hi sn ch my kp tx rd wy)]) H → va_D A (List.flatten [(W_M cI cC cT h0 h1 h2 h3 h4 h5 h6 h7 h8 h9 h10 hlg tk fx xl xp rmn hdn few mst fal al sv hi sn ch my kp tx rd wy)]) → va_S A s.heap H locs → ∀ (ls : Array Slot), lv_has ls 4 [(0, .ref h0), (1, .int p0), (2, .int v2_1), (3, .int v3_2)] → W p l e rm_X6_keysWith s m ([.ref h0, .int p0] : List Value).toArray below meth c H locs 0 0 (MQ below (mQi D (mTY cI cC cT) out A (List.flatten [(W_M cI cC cT h0 h1 h2 h3 h4 h5 h6 h7 h8 h9 h10 hlg tk fx xl xp rmn hdn few mst fal al sv hi sn ch my kp tx rd wy)])) ([.ref h0, .int p0] : List Value).toArray s 0 0 A) (F0 m 4 ls []) := by
    intro n_3
    induction n_3 with
    | zero => intro v2_1 v3_2 hf; exact (iter_zero hf).elim
    | succ n_3 ih_3 =>
      intro v2_1 v3_2 hf H locs hP hD hS ls hl
      obtain ⟨o_3, hf, ho_3⟩ := iter_succ hf
      dsimp only [b_X6_keysWith_1] at hf
      refine lv_iload_n hx hb dX6_keysWith_4 rfl (lv_at hl 3 rfl) ?_
      refine lv_bipush (v := 10) hx hb dX6_keysWith_5 (by decide) ?_
      refine lv_icmp_ge (tgt := 33) hx hb dX6_keysWith_7 (by decide) (fun c_4 => ?_) (fun c_4 => ?_)
      · have hf := ite_t hf c_4
        refine lv_iload_n hx hb dX6_keysWith_33 rfl (lv_at hl 2 rfl) ?_
        cases hf
        have hf := ho_3.2 _ rfl
        cases hf
        exact mIret hx hb hr hlocks hP hD hK hS dX6_keysWith_34
      · have hf := ite_f hf c_4
        refine lv_iload_n hx hb dX6_keysWith_10 rfl (lv_at hl 2 rfl) ?_
        refine lv_aload_n hx hb dX6_keysWith_11 rfl (lv_at hl 0 rfl) ?_
        refine lv_iload_n hx hb dX6_keysWith_12 rfl (lv_at hl 3 rfl) ?_
        obtain ⟨r_5, q_6, hf⟩ := bnd hf
        refine mGoiS (segs := [(W_M cI cC cT h0 h1 h2 h3 h4 h5 h6 h7 h8 h9 h10 hlg tk fx xl xp rmn hdn few mst fal al sv hi sn ch my kp tx rd wy)]) (wcs := [(W_M cI cC cT h0 h1 h2 h3 h4 h5 h6 h7 h8 h9 h10 hlg tk fx xl xp rmn hdn few mst fal al sv hi sn ch my kp tx rd wy)]) (w1s := [(W_M cI cC cT h0 h1 h2 h3 h4 h5 h6 h7 h8 h9 h10 hlg tk fx xl xp rmn hdn few mst fal al sv hi sn ch my kp tx rd wy)]) (w2s := [(W_M cI cC cT h0 h1 h2 h3 h4 h5 h6 h7 h8 h9 h10 hlg tk fx xl xp rmn hdn few mst fal al sv hi sn ch my kp tx rd wy)]) rfl rfl (va_runV (As := [.int v3_2]) (rest := [.int v2_1]) ⟨hx, hb, hml, hown, hts⟩ (c_X6_rowsOf l D cI cC cT h0 h1 h2 h3 h4 h5 h6 h7 h8 h9 h10 hlg tk fx xl xp rmn hdn few mst fal al sv hi sn ch my kp tx rd wy H.size v3_2 r_5 q_6) (cwV 1 hts gX6_keysWith_X6_rowsOf rfl rfl rfl (by decide +kernel) ⟨Nat.le_of_ble_eq_true rfl, Nat.le_of_ble_eq_true rfl⟩) (mPreVS [(W_M cI cC cT h0 h1 h2 h3 h4 h5 h6 h7 h8 h9 h10 hlg tk fx xl xp rmn hdn few mst fal al sv hi sn ch my kp tx rd wy)] rfl hP hD hK hN [0] rfl (by decide) (va_recv hK (sP hP 0 rfl) (ci := 6) (q0 := 0) rfl rfl)) rfl rfl hl.1 rfl (lv_room (Nat.le_of_ble_eq_true rfl)) dX6_keysWith_13 ⟨Nat.zero_le _, Nat.zero_le _⟩) hP hD hS hA [0] rfl rfl rfl rfl (fun H locs hP hD hS => ?_)
        refine lv_iload_n hx hb dX6_keysWith_16 rfl (lv_at hl 1 rfl) ?_
        obtain ⟨x_7, q_9, hf⟩ := bnd hf
        have K_8 : ∀ (H : Heap) (locs : List Loc), va_P D vwCl (List.flatten [(W_M cI cC cT h0 h1 h2 h3 h4 h5 h6 h7 h8 h9 h10 hlg tk fx xl xp rmn hdn few mst fal al sv hi sn ch my kp tx rd wy)]) H → va_D A (List.flatten [(W_M cI cC cT h0 h1 h2 h3 h4 h5 h6 h7 h8 h9 h10 hlg tk fx xl xp rmn hdn few mst fal al sv hi sn ch my kp tx rd wy)]) → va_S A s.heap H locs → ∀ (ls : Array Slot), lv_has ls 4 [(0, .ref h0), (1, .int p0), (3, .int v3_2)] → W p l e rm_X6_keysWith s m ([.ref h0, .int p0] : List Value).toArray below meth c H locs 0 0 (MQ below (mQi D (mTY cI cC cT) out A (List.flatten [(W_M cI cC cT h0 h1 h2 h3 h4 h5 h6 h7 h8 h9 h10 hlg tk fx xl xp rmn hdn few mst fal al sv hi sn ch my kp tx rd wy)])) ([.ref h0, .int p0] : List Value).toArray s 0 0 A) (F0 m 25 ls [.int x_7, .int v2_1]) := by
          intro H locs hP hD hS ls hl
          refine lv_iadd hx hb dX6_keysWith_25 ?_
          refine lv_istore_n (lv' := [(2, .int (v2_1 + x_7)), (0, .ref h0), (1, .int p0), (3, .int v3_2)]) hx hb dX6_keysWith_26 rfl hl (by decide) rfl (fun ls hl => ?_)
          refine lv_iinc (v := v3_2 + 1) (lv' := [(3, .int (v3_2 + 1)), (2, .int (v2_1 + x_7)), (0, .ref h0), (1, .int p0)]) hx hb dX6_keysWith_27 hl (k := 3) rfl rfl (by decide) rfl (fun ls hl => ?_)
          refine lv_goto (tgt := 4) hx hb dX6_keysWith_30 (by decide) ?_
          cases hf
          have hf := ho_3.1 _ rfl
          exact ih_3 _ _ hf _ _ hP hD hS _ (lv_sub hl [2, 3, 1, 0] rfl)
        have hf := q_9
        refine lv_icmp_lt (tgt := 24) hx hb dX6_keysWith_17 (by decide) (fun c_10 => ?_) (fun c_10 => ?_)
        · have hf := ite_t hf c_10
          refine lv_iconst (v := 0) hx hb dX6_keysWith_24 (by decide) ?_
          cases hf
          exact K_8 _ _ hP hD hS _ (lv_sub hl [0, 1, 3] rfl)
        · have hf := ite_f hf c_10
          refine lv_iconst (v := 1) hx hb dX6_keysWith_20 (by decide) ?_
          refine lv_goto (tgt := 25) hx hb dX6_keysWith_21 (by decide) ?_
          cases hf
          exact K_8 _ _ hP hD hS _ (lv_sub hl [0, 1, 3] rfl)
  exact LP_3 _ _ _ hf _ _ hP hD hS _ (lv_sub hl [2, 3, 1, 0] rfl)
abbrev rm_X6_isSure : Room := { frames := 4, cells := 0, slots := 0, locals := 91 }
set_option maxHeartbeats 4000000 in
set_option maxRecDepth 100000 in
theorem c_X6_isSure (l : Launch) (D : va_G) (cI cC cT : ClassId) (h0 h1 h2 h3 h4 h5 h6 h7 h8 h9 h10 : Nat) (hlg : Int32) (tk : Int32) (fx : Int32) (xl : Int32) (xp : Int32) (rmn : Int32) (hdn : Int32) (few : Int32) (mst : Int32) (fal : Int32) (al : Nat → Int32) (sv : Nat → Int32) (hi : Nat → Int32) (sn : Nat → Int32) (ch : Nat → Int32) (my : Nat → Int32) (kp : Nat → Int32) (tx : Nat → Int32) (rd : Nat → Int32) (wy : Nat → Int32) (sz : Nat) (p0 : Int32) (out : Int32) (o_ch : Nat → Int32) (o_my : Nat → Int32) (hf : f_X6_isSure fx al ch my p0 = some ((out, o_ch, o_my))) : Met l yX6_isSure wsX6_isSure rm_X6_isSure (mP D (mTY cI cC cT) [.ref h0, .int p0] (List.flatten [(W_M cI cC cT h0 h1 h2 h3 h4 h5 h6 h7 h8 h9 h10 hlg tk fx xl xp rmn hdn few mst fal al sv hi sn ch my kp tx rd wy)]) sz) (mQi D (mTY cI cC cT) out (va_A (List.flatten [(W_M cI cC cT h0 h1 h2 h3 h4 h5 h6 h7 h8 h9 h10 hlg tk fx xl xp rmn hdn few mst fal al sv hi sn ch my kp tx rd wy)]) sz) (List.flatten [(W_M cI cC cT h0 h1 h2 h3 h4 h5 h6 h7 h8 h9 h10 hlg tk fx xl xp rmn hdn few mst fal al sv hi sn o_ch o_my kp tx rd wy)])) 0 0 (va_A (List.flatten [(W_M cI cC cT h0 h1 h2 h3 h4 h5 h6 h7 h8 h9 h10 hlg tk fx xl xp rmn hdn few mst fal al sv hi sn ch my kp tx rd wy)]) sz) := by
  refine mEnt (cc := cX6_isSure) (maxL := 2) (ret := (some .boolean)) (own := RX6) (Qq := fun A => mQi D (mTY cI cC cT) out A (List.flatten [(W_M cI cC cT h0 h1 h2 h3 h4 h5 h6 h7 h8 h9 h10 hlg tk fx xl xp rmn hdn few mst fal al sv hi sn o_ch o_my kp tx rd wy)])) (by decide) rfl rfl (Nat.le_of_ble_eq_true rfl) ?_
  intro p e s m below meth c A ls H locs hx hb hr hml hlocks hown hts hN hA hP hK hD hS hl
  have hin_X6 : ∀ w ∈ u_ws RX6 TX6 20, w ∈ wsX6_isSure := by decide +kernel
  have fl_25 := hts (.fieldLink RX6 25 "SureMendingsModel" "many" "[I") (by decide +kernel)
  have hl : lv_has ls 2 [(0, .ref h0), (1, .int p0)] := hl
  unfold f_X6_isSure at hf
  refine lv_aload_n hx hb dX6_isSure_0 rfl (lv_at hl 0 rfl) ?_
  obtain ⟨⟨ch_1, my_2⟩, q_3, hf⟩ := bnd hf
  refine mGovS (segs := [(W_M cI cC cT h0 h1 h2 h3 h4 h5 h6 h7 h8 h9 h10 hlg tk fx xl xp rmn hdn few mst fal al sv hi sn ch my kp tx rd wy)]) (wcs := [(W_M cI cC cT h0 h1 h2 h3 h4 h5 h6 h7 h8 h9 h10 hlg tk fx xl xp rmn hdn few mst fal al sv hi sn ch my kp tx rd wy)]) (w1s := [(W_M cI cC cT h0 h1 h2 h3 h4 h5 h6 h7 h8 h9 h10 hlg tk fx xl xp rmn hdn few mst fal al sv hi sn ch_1 my_2 kp tx rd wy)]) (w2s := [(W_M cI cC cT h0 h1 h2 h3 h4 h5 h6 h7 h8 h9 h10 hlg tk fx xl xp rmn hdn few mst fal al sv hi sn ch_1 my_2 kp tx rd wy)]) rfl rfl (va_runV (As := []) (rest := []) ⟨hx, hb, hml, hown, hts⟩ (c_X6_findsChoices l D cI cC cT h0 h1 h2 h3 h4 h5 h6 h7 h8 h9 h10 hlg tk fx xl xp rmn hdn few mst fal al sv hi sn ch my kp tx rd wy H.size ch_1 my_2 q_3) (cwV 0 hts gX6_isSure_X6_findsChoices rfl rfl rfl (by decide +kernel) ⟨Nat.le_of_ble_eq_true rfl, Nat.le_of_ble_eq_true rfl⟩) (mPreVS [(W_M cI cC cT h0 h1 h2 h3 h4 h5 h6 h7 h8 h9 h10 hlg tk fx xl xp rmn hdn few mst fal al sv hi sn ch my kp tx rd wy)] rfl hP hD hK hN [0] rfl (by decide) (va_recv hK (sP hP 0 rfl) (ci := 6) (q0 := 0) rfl rfl)) rfl rfl hl.1 rfl (lv_room (Nat.le_of_ble_eq_true rfl)) dX6_isSure_1 ⟨Nat.zero_le _, Nat.zero_le _⟩) hP hD hS hA [0] rfl rfl rfl rfl (fun H locs hP hD hS => ?_)
  refine lv_aload_n hx hb dX6_isSure_4 rfl (lv_at hl 0 rfl) ?_
  refine lv_iload_n hx hb dX6_isSure_5 rfl (lv_at hl 1 rfl) ?_
  obtain ⟨r_4, q_5, hf⟩ := bnd hf
  refine mGoiS (segs := [(W_M cI cC cT h0 h1 h2 h3 h4 h5 h6 h7 h8 h9 h10 hlg tk fx xl xp rmn hdn few mst fal al sv hi sn ch_1 my_2 kp tx rd wy)]) (wcs := [(W_M cI cC cT h0 h1 h2 h3 h4 h5 h6 h7 h8 h9 h10 hlg tk fx xl xp rmn hdn few mst fal al sv hi sn ch_1 my_2 kp tx rd wy)]) (w1s := [(W_M cI cC cT h0 h1 h2 h3 h4 h5 h6 h7 h8 h9 h10 hlg tk fx xl xp rmn hdn few mst fal al sv hi sn ch_1 my_2 kp tx rd wy)]) (w2s := [(W_M cI cC cT h0 h1 h2 h3 h4 h5 h6 h7 h8 h9 h10 hlg tk fx xl xp rmn hdn few mst fal al sv hi sn ch_1 my_2 kp tx rd wy)]) rfl rfl (va_runV (As := [.int p0]) (rest := []) ⟨hx, hb, hml, hown, hts⟩ (c_X6_canBeKept l D cI cC cT h0 h1 h2 h3 h4 h5 h6 h7 h8 h9 h10 hlg tk fx xl xp rmn hdn few mst fal al sv hi sn ch_1 my_2 kp tx rd wy H.size p0 r_4 q_5) (cwV 1 hts gX6_isSure_X6_canBeKept rfl rfl rfl (by decide +kernel) ⟨Nat.le_of_ble_eq_true rfl, Nat.le_of_ble_eq_true rfl⟩) (mPreVS [(W_M cI cC cT h0 h1 h2 h3 h4 h5 h6 h7 h8 h9 h10 hlg tk fx xl xp rmn hdn few mst fal al sv hi sn ch_1 my_2 kp tx rd wy)] rfl hP hD hK hN [0] rfl (by decide) (va_recv hK (sP hP 0 rfl) (ci := 6) (q0 := 0) rfl rfl)) rfl rfl hl.1 rfl (lv_room (Nat.le_of_ble_eq_true rfl)) dX6_isSure_6 ⟨Nat.zero_le _, Nat.zero_le _⟩) hP hD hS hA [0] rfl rfl rfl rfl (fun H locs hP hD hS => ?_)
  refine lv_if_eq (tgt := 31) hx hb dX6_isSure_9 (by decide) (fun c_6 => ?_) (fun c_6 => ?_)
  · have hf := ite_t hf c_6
    refine lv_iconst (v := 0) hx hb dX6_isSure_31 (by decide) ?_
    cases hf
    exact mZret hx hb hr rfl hlocks hP hD hK hS dX6_isSure_32
  · have hf := ite_f hf c_6
    refine lv_aload_n hx hb dX6_isSure_12 rfl (lv_at hl 0 rfl) ?_
    refine va_get (D := D) (ci := 6) (v := .ref h6) (C := RX6) (T := TX6) (N := 20) hx hb hts hin_X6 hown hK hP 0 rfl rfl 7 (by decide) fl_25 (fun _ h9 => h9) rfl dX6_isSure_13 ?_
    refine lv_aload_n hx hb dX6_isSure_16 rfl (lv_at hl 0 rfl) ?_
    refine lv_iload_n hx hb dX6_isSure_17 rfl (lv_at hl 1 rfl) ?_
    refine lv_iconst (v := 0) hx hb dX6_isSure_18 (by decide) ?_
    obtain ⟨r_7, q_8, hf⟩ := bnd hf
    refine mGoiS (segs := [(W_M cI cC cT h0 h1 h2 h3 h4 h5 h6 h7 h8 h9 h10 hlg tk fx xl xp rmn hdn few mst fal al sv hi sn ch_1 my_2 kp tx rd wy)]) (wcs := [(W_M cI cC cT h0 h1 h2 h3 h4 h5 h6 h7 h8 h9 h10 hlg tk fx xl xp rmn hdn few mst fal al sv hi sn ch_1 my_2 kp tx rd wy)]) (w1s := [(W_M cI cC cT h0 h1 h2 h3 h4 h5 h6 h7 h8 h9 h10 hlg tk fx xl xp rmn hdn few mst fal al sv hi sn ch_1 my_2 kp tx rd wy)]) (w2s := [(W_M cI cC cT h0 h1 h2 h3 h4 h5 h6 h7 h8 h9 h10 hlg tk fx xl xp rmn hdn few mst fal al sv hi sn ch_1 my_2 kp tx rd wy)]) rfl rfl (va_runV (As := [.int p0, .int 0]) (rest := [.ref h6]) ⟨hx, hb, hml, hown, hts⟩ (c_X6_of l D cI cC cT h0 h1 h2 h3 h4 h5 h6 h7 h8 h9 h10 hlg tk fx xl xp rmn hdn few mst fal al sv hi sn ch_1 my_2 kp tx rd wy H.size p0 0 r_7 q_8) (cwV 2 hts gX6_isSure_X6_of rfl rfl rfl (by decide +kernel) ⟨Nat.le_of_ble_eq_true rfl, Nat.le_of_ble_eq_true rfl⟩) (mPreVS [(W_M cI cC cT h0 h1 h2 h3 h4 h5 h6 h7 h8 h9 h10 hlg tk fx xl xp rmn hdn few mst fal al sv hi sn ch_1 my_2 kp tx rd wy)] rfl hP hD hK hN [0] rfl (by decide) (va_recv hK (sP hP 0 rfl) (ci := 6) (q0 := 0) rfl rfl)) rfl rfl hl.1 rfl (lv_room (Nat.le_of_ble_eq_true rfl)) dX6_isSure_19 ⟨Nat.zero_le _, Nat.zero_le _⟩) hP hD hS hA [0] rfl rfl rfl rfl (fun H locs hP hD hS => ?_)
    obtain ⟨h_9, hf⟩ := grd hf
    refine va_iald hx hb hK hP 6 0 rfl rfl h_9 dX6_isSure_22 ?_
    refine lv_iconst (v := 1) hx hb dX6_isSure_23 (by decide) ?_
    refine lv_icmp_ne (tgt := 31) hx hb dX6_isSure_24 (by decide) (fun c_10 => ?_) (fun c_10 => ?_)
    · have hf := ite_f hf c_10
      refine lv_iconst (v := 0) hx hb dX6_isSure_31 (by decide) ?_
      cases hf
      exact mZret hx hb hr rfl hlocks hP hD hK hS dX6_isSure_32
    · have hf := ite_t hf c_10
      refine lv_iconst (v := 1) hx hb dX6_isSure_27 (by decide) ?_
      refine lv_goto (tgt := 32) hx hb dX6_isSure_28 (by decide) ?_
      cases hf
      exact mZret hx hb hr rfl hlocks hP hD hK hS dX6_isSure_32
abbrev rm_X6_sureRows : Room := { frames := 5, cells := 0, slots := 0, locals := 112 }
set_option maxHeartbeats 4000000 in
set_option maxRecDepth 100000 in
theorem c_X6_sureRows (l : Launch) (D : va_G) (cI cC cT : ClassId) (h0 h1 h2 h3 h4 h5 h6 h7 h8 h9 h10 : Nat) (hlg : Int32) (tk : Int32) (fx : Int32) (xl : Int32) (xp : Int32) (rmn : Int32) (hdn : Int32) (few : Int32) (mst : Int32) (fal : Int32) (al : Nat → Int32) (sv : Nat → Int32) (hi : Nat → Int32) (sn : Nat → Int32) (ch : Nat → Int32) (my : Nat → Int32) (kp : Nat → Int32) (tx : Nat → Int32) (rd : Nat → Int32) (wy : Nat → Int32) (sz : Nat) (out : Int32) (o_ch : Nat → Int32) (o_my : Nat → Int32) (hf : f_X6_sureRows fx al ch my = some ((out, o_ch, o_my))) : Met l yX6_sureRows wsX6_sureRows rm_X6_sureRows (mP D (mTY cI cC cT) [.ref h0] (List.flatten [(W_M cI cC cT h0 h1 h2 h3 h4 h5 h6 h7 h8 h9 h10 hlg tk fx xl xp rmn hdn few mst fal al sv hi sn ch my kp tx rd wy)]) sz) (mQi D (mTY cI cC cT) out (va_A (List.flatten [(W_M cI cC cT h0 h1 h2 h3 h4 h5 h6 h7 h8 h9 h10 hlg tk fx xl xp rmn hdn few mst fal al sv hi sn ch my kp tx rd wy)]) sz) (List.flatten [(W_M cI cC cT h0 h1 h2 h3 h4 h5 h6 h7 h8 h9 h10 hlg tk fx xl xp rmn hdn few mst fal al sv hi sn o_ch o_my kp tx rd wy)])) 0 0 (va_A (List.flatten [(W_M cI cC cT h0 h1 h2 h3 h4 h5 h6 h7 h8 h9 h10 hlg tk fx xl xp rmn hdn few mst fal al sv hi sn ch my kp tx rd wy)]) sz) := by
  refine mEnt (cc := cX6_sureRows) (maxL := 3) (ret := (some .int)) (own := RX6) (Qq := fun A => mQi D (mTY cI cC cT) out A (List.flatten [(W_M cI cC cT h0 h1 h2 h3 h4 h5 h6 h7 h8 h9 h10 hlg tk fx xl xp rmn hdn few mst fal al sv hi sn o_ch o_my kp tx rd wy)])) (by decide) rfl rfl (Nat.le_of_ble_eq_true rfl) ?_
  intro p e s m below meth c A ls H locs hx hb hr hml hlocks hown hts hN hA hP hK hD hS hl
  have hin_X6 : ∀ w ∈ u_ws RX6 TX6 20, w ∈ wsX6_sureRows := by decide +kernel
  have fl_7 := hts (.fieldLink RX6 7 "SureMendingsModel" "all" "[I") (by decide +kernel)
  have hl : lv_has ls 3 [(0, .ref h0)] := hl
  unfold f_X6_sureRows at hf
  refine lv_iconst (v := 0) hx hb dX6_sureRows_0 (by decide) ?_
  refine lv_istore_n (lv' := [(1, .int 0), (0, .ref h0)]) hx hb dX6_sureRows_1 rfl hl (by decide) rfl (fun ls hl => ?_)
  refine lv_iconst (v := 0) hx hb dX6_sureRows_2 (by decide) ?_
  refine lv_istore_n (lv' := [(2, .int 0), (1, .int 0), (0, .ref h0)]) hx hb dX6_sureRows_3 rfl hl (by decide) rfl (fun ls hl => ?_)
  have LP_5 : ∀ (n_5 : Nat) (v1_1 : Int32) (v2_2 : Int32) (ch_3 : Nat → Int32) (my_4 : Nat → Int32), iter n_5 (b_X6_sureRows_1 fx al) ((v1_1, v2_2, ch_3, my_4)) = some ((out, o_ch, o_my)) → ∀ (H : Heap) (locs : List Loc), va_P D vwCl (List.flatten [(W_M cI cC cT h0 h1 h2 h3 h4 h5 h6 h7 h8 h9 h10 hlg tk fx xl xp rmn hdn few mst fal al sv hi sn ch_3 my_4 kp tx rd wy)]) H → va_D A (List.flatten [(W_M cI cC cT h0 h1 h2 h3 h4 h5 h6 h7 h8 h9 h10 hlg tk fx xl xp rmn hdn few mst fal al sv hi sn ch_3 my_4 kp tx rd wy)]) → va_S A s.heap H locs → ∀ (ls : Array Slot), lv_has ls 3 [(0, .ref h0), (1, .int v1_1), (2, .int v2_2)] → W p l e rm_X6_sureRows s m ([.ref h0] : List Value).toArray below meth c H locs 0 0 (MQ below (mQi D (mTY cI cC cT) out A (List.flatten [(W_M cI cC cT h0 h1 h2 h3 h4 h5 h6 h7 h8 h9 h10 hlg tk fx xl xp rmn hdn few mst fal al sv hi sn o_ch o_my kp tx rd wy)])) ([.ref h0] : List Value).toArray s 0 0 A) (F0 m 4 ls []) := by
    intro n_5
    induction n_5 with
    | zero => intro v1_1 v2_2 ch_3 my_4 hf; exact (iter_zero hf).elim
    | succ n_5 ih_5 =>
      intro v1_1 v2_2 ch_3 my_4 hf H locs hP hD hS ls hl
      obtain ⟨o_5, hf, ho_5⟩ := iter_succ hf
      dsimp only [b_X6_sureRows_1] at hf
      refine lv_iload_n hx hb dX6_sureRows_4 rfl (lv_at hl 2 rfl) ?_
      refine lv_aload_n hx hb dX6_sureRows_5 rfl (lv_at hl 0 rfl) ?_
      refine va_get (D := D) (ci := 6) (v := .ref h1) (C := RX6) (T := TX6) (N := 20) hx hb hts hin_X6 hown hK hP 0 rfl rfl 0 (by decide) fl_7 (fun _ h9 => h9) rfl dX6_sureRows_6 ?_
      refine lv_iconst (v := 0) hx hb dX6_sureRows_9 (by decide) ?_
      refine va_iald hx hb hK hP 1 0 rfl rfl (i := 0) (by unfold vp_in; decide) dX6_sureRows_10 ?_
      refine lv_tope (y := al 0) rfl ?_
      refine lv_icmp_ge (tgt := 36) hx hb dX6_sureRows_11 (by decide) (fun c_6 => ?_) (fun c_6 => ?_)
      · have hf := ite_t hf c_6
        refine lv_iload_n hx hb dX6_sureRows_36 rfl (lv_at hl 1 rfl) ?_
        cases hf
        have hf := ho_5.2 _ rfl
        cases hf
        exact mIret hx hb hr hlocks hP hD hK hS dX6_sureRows_37
      · have hf := ite_f hf c_6
        refine lv_iload_n hx hb dX6_sureRows_14 rfl (lv_at hl 1 rfl) ?_
        refine lv_aload_n hx hb dX6_sureRows_15 rfl (lv_at hl 0 rfl) ?_
        refine lv_iload_n hx hb dX6_sureRows_16 rfl (lv_at hl 2 rfl) ?_
        obtain ⟨⟨r_7, ch_8, my_9⟩, q_10, hf⟩ := bnd hf
        refine mGoiS (segs := [(W_M cI cC cT h0 h1 h2 h3 h4 h5 h6 h7 h8 h9 h10 hlg tk fx xl xp rmn hdn few mst fal al sv hi sn ch_3 my_4 kp tx rd wy)]) (wcs := [(W_M cI cC cT h0 h1 h2 h3 h4 h5 h6 h7 h8 h9 h10 hlg tk fx xl xp rmn hdn few mst fal al sv hi sn ch_3 my_4 kp tx rd wy)]) (w1s := [(W_M cI cC cT h0 h1 h2 h3 h4 h5 h6 h7 h8 h9 h10 hlg tk fx xl xp rmn hdn few mst fal al sv hi sn ch_8 my_9 kp tx rd wy)]) (w2s := [(W_M cI cC cT h0 h1 h2 h3 h4 h5 h6 h7 h8 h9 h10 hlg tk fx xl xp rmn hdn few mst fal al sv hi sn ch_8 my_9 kp tx rd wy)]) rfl rfl (va_runV (As := [.int v2_2]) (rest := [.int v1_1]) ⟨hx, hb, hml, hown, hts⟩ (c_X6_isSure l D cI cC cT h0 h1 h2 h3 h4 h5 h6 h7 h8 h9 h10 hlg tk fx xl xp rmn hdn few mst fal al sv hi sn ch_3 my_4 kp tx rd wy H.size v2_2 r_7 ch_8 my_9 q_10) (cwV 1 hts gX6_sureRows_X6_isSure rfl rfl rfl (by decide +kernel) ⟨Nat.le_of_ble_eq_true rfl, Nat.le_of_ble_eq_true rfl⟩) (mPreVS [(W_M cI cC cT h0 h1 h2 h3 h4 h5 h6 h7 h8 h9 h10 hlg tk fx xl xp rmn hdn few mst fal al sv hi sn ch_3 my_4 kp tx rd wy)] rfl hP hD hK hN [0] rfl (by decide) (va_recv hK (sP hP 0 rfl) (ci := 6) (q0 := 0) rfl rfl)) rfl rfl hl.1 rfl (lv_room (Nat.le_of_ble_eq_true rfl)) dX6_sureRows_17 ⟨Nat.zero_le _, Nat.zero_le _⟩) hP hD hS hA [0] rfl rfl rfl rfl (fun H locs hP hD hS => ?_)
        obtain ⟨x_11, q_13, hf⟩ := bnd hf
        have K_12 : ∀ (H : Heap) (locs : List Loc), va_P D vwCl (List.flatten [(W_M cI cC cT h0 h1 h2 h3 h4 h5 h6 h7 h8 h9 h10 hlg tk fx xl xp rmn hdn few mst fal al sv hi sn ch_8 my_9 kp tx rd wy)]) H → va_D A (List.flatten [(W_M cI cC cT h0 h1 h2 h3 h4 h5 h6 h7 h8 h9 h10 hlg tk fx xl xp rmn hdn few mst fal al sv hi sn ch_8 my_9 kp tx rd wy)]) → va_S A s.heap H locs → ∀ (ls : Array Slot), lv_has ls 3 [(0, .ref h0), (2, .int v2_2)] → W p l e rm_X6_sureRows s m ([.ref h0] : List Value).toArray below meth c H locs 0 0 (MQ below (mQi D (mTY cI cC cT) out A (List.flatten [(W_M cI cC cT h0 h1 h2 h3 h4 h5 h6 h7 h8 h9 h10 hlg tk fx xl xp rmn hdn few mst fal al sv hi sn o_ch o_my kp tx rd wy)])) ([.ref h0] : List Value).toArray s 0 0 A) (F0 m 28 ls [.int x_11, .int v1_1]) := by
          intro H locs hP hD hS ls hl
          refine lv_iadd hx hb dX6_sureRows_28 ?_
          refine lv_istore_n (lv' := [(1, .int (v1_1 + x_11)), (0, .ref h0), (2, .int v2_2)]) hx hb dX6_sureRows_29 rfl hl (by decide) rfl (fun ls hl => ?_)
          refine lv_iinc (v := v2_2 + 1) (lv' := [(2, .int (v2_2 + 1)), (1, .int (v1_1 + x_11)), (0, .ref h0)]) hx hb dX6_sureRows_30 hl (k := 2) rfl rfl (by decide) rfl (fun ls hl => ?_)
          refine lv_goto (tgt := 4) hx hb dX6_sureRows_33 (by decide) ?_
          cases hf
          have hf := ho_5.1 _ rfl
          exact ih_5 _ _ _ _ hf _ _ hP hD hS _ (lv_sub hl [2, 1, 0] rfl)
        have hf := q_13
        refine lv_if_eq (tgt := 27) hx hb dX6_sureRows_20 (by decide) (fun c_14 => ?_) (fun c_14 => ?_)
        · have hf := ite_t hf c_14
          refine lv_iconst (v := 0) hx hb dX6_sureRows_27 (by decide) ?_
          cases hf
          exact K_12 _ _ hP hD hS _ (lv_sub hl [0, 2] rfl)
        · have hf := ite_f hf c_14
          refine lv_iconst (v := 1) hx hb dX6_sureRows_23 (by decide) ?_
          refine lv_goto (tgt := 28) hx hb dX6_sureRows_24 (by decide) ?_
          cases hf
          exact K_12 _ _ hP hD hS _ (lv_sub hl [0, 2] rfl)
  exact LP_5 _ _ _ _ _ hf _ _ hP hD hS _ (lv_sub hl [2, 1, 0] rfl)
abbrev rm_X6_values : Room := { frames := 6, cells := 0, slots := 0, locals := 135 }
set_option maxHeartbeats 4000000 in
set_option maxRecDepth 100000 in
theorem c_X6_values (l : Launch) (D : va_G) (cI cC cT : ClassId) (h0 h1 h2 h3 h4 h5 h6 h7 h8 h9 h10 : Nat) (hlg : Int32) (tk : Int32) (fx : Int32) (xl : Int32) (xp : Int32) (rmn : Int32) (hdn : Int32) (few : Int32) (mst : Int32) (fal : Int32) (al : Nat → Int32) (sv : Nat → Int32) (hi : Nat → Int32) (sn : Nat → Int32) (ch : Nat → Int32) (my : Nat → Int32) (kp : Nat → Int32) (tx : Nat → Int32) (rd : Nat → Int32) (wy : Nat → Int32) (sz : Nat) (p0 : Int32) (out : Int32) (o_hdn : Int32) (o_few : Int32) (o_mst : Int32) (o_fal : Int32) (o_ch : Nat → Int32) (o_my : Nat → Int32) (o_kp : Nat → Int32) (hf : f_X6_values fx hdn few mst fal al ch my kp p0 = some ((out, o_hdn, o_few, o_mst, o_fal, o_ch, o_my, o_kp))) : Met l yX6_values wsX6_values rm_X6_values (mP D (mTY cI cC cT) [.ref h0, .int p0] (List.flatten [(W_M cI cC cT h0 h1 h2 h3 h4 h5 h6 h7 h8 h9 h10 hlg tk fx xl xp rmn hdn few mst fal al sv hi sn ch my kp tx rd wy)]) sz) (mQi D (mTY cI cC cT) out (va_A (List.flatten [(W_M cI cC cT h0 h1 h2 h3 h4 h5 h6 h7 h8 h9 h10 hlg tk fx xl xp rmn hdn few mst fal al sv hi sn ch my kp tx rd wy)]) sz) (List.flatten [(W_M cI cC cT h0 h1 h2 h3 h4 h5 h6 h7 h8 h9 h10 hlg tk fx xl xp rmn o_hdn o_few o_mst o_fal al sv hi sn o_ch o_my o_kp tx rd wy)])) 0 0 (va_A (List.flatten [(W_M cI cC cT h0 h1 h2 h3 h4 h5 h6 h7 h8 h9 h10 hlg tk fx xl xp rmn hdn few mst fal al sv hi sn ch my kp tx rd wy)]) sz) := by
  refine mEnt (cc := cX6_values) (maxL := 4) (ret := (some .int)) (own := RX6) (Qq := fun A => mQi D (mTY cI cC cT) out A (List.flatten [(W_M cI cC cT h0 h1 h2 h3 h4 h5 h6 h7 h8 h9 h10 hlg tk fx xl xp rmn o_hdn o_few o_mst o_fal al sv hi sn o_ch o_my o_kp tx rd wy)])) (by decide) rfl rfl (Nat.le_of_ble_eq_true rfl) ?_
  intro p e s m below meth c A ls H locs hx hb hr hml hlocks hown hts hN hA hP hK hD hS hl
  have hin_X6 : ∀ w ∈ u_ws RX6 TX6 20, w ∈ wsX6_values := by decide +kernel
  have fl_152 := hts (.fieldLink RX6 152 "SureMendingsModel" "holding" "I") (by decide +kernel)
  have fl_161 := hts (.fieldLink RX6 161 "SureMendingsModel" "failing" "I") (by decide +kernel)
  have hl : lv_has ls 4 [(0, .ref h0), (1, .int p0)] := hl
  unfold f_X6_values at hf
  refine lv_iconst (v := 0) hx hb dX6_values_0 (by decide) ?_
  refine lv_istore_n (lv' := [(2, .int 0), (0, .ref h0), (1, .int p0)]) hx hb dX6_values_1 rfl hl (by decide) rfl (fun ls hl => ?_)
  refine lv_iconst (v := 0) hx hb dX6_values_2 (by decide) ?_
  refine lv_istore_n (lv' := [(3, .int 0), (2, .int 0), (0, .ref h0), (1, .int p0)]) hx hb dX6_values_3 rfl hl (by decide) rfl (fun ls hl => ?_)
  have LP_10 : ∀ (n_10 : Nat) (v2_1 : Int32) (v3_2 : Int32) (hdn_3 : Int32) (few_4 : Int32) (mst_5 : Int32) (fal_6 : Int32) (ch_7 : Nat → Int32) (my_8 : Nat → Int32) (kp_9 : Nat → Int32), iter n_10 (b_X6_values_1 fx al p0) ((v2_1, v3_2, hdn_3, few_4, mst_5, fal_6, ch_7, my_8, kp_9)) = some ((out, o_hdn, o_few, o_mst, o_fal, o_ch, o_my, o_kp)) → ∀ (H : Heap) (locs : List Loc), va_P D vwCl (List.flatten [(W_M cI cC cT h0 h1 h2 h3 h4 h5 h6 h7 h8 h9 h10 hlg tk fx xl xp rmn hdn_3 few_4 mst_5 fal_6 al sv hi sn ch_7 my_8 kp_9 tx rd wy)]) H → va_D A (List.flatten [(W_M cI cC cT h0 h1 h2 h3 h4 h5 h6 h7 h8 h9 h10 hlg tk fx xl xp rmn hdn_3 few_4 mst_5 fal_6 al sv hi sn ch_7 my_8 kp_9 tx rd wy)]) → va_S A s.heap H locs → ∀ (ls : Array Slot), lv_has ls 4 [(0, .ref h0), (1, .int p0), (2, .int v2_1), (3, .int v3_2)] → W p l e rm_X6_values s m ([.ref h0, .int p0] : List Value).toArray below meth c H locs 0 0 (MQ below (mQi D (mTY cI cC cT) out A (List.flatten [(W_M cI cC cT h0 h1 h2 h3 h4 h5 h6 h7 h8 h9 h10 hlg tk fx xl xp rmn o_hdn o_few o_mst o_fal al sv hi sn o_ch o_my o_kp tx rd wy)])) ([.ref h0, .int p0] : List Value).toArray s 0 0 A) (F0 m 4 ls []) := by
    intro n_10
    induction n_10 with
    | zero => intro v2_1 v3_2 hdn_3 few_4 mst_5 fal_6 ch_7 my_8 kp_9 hf; exact (iter_zero hf).elim
    | succ n_10 ih_10 =>
      intro v2_1 v3_2 hdn_3 few_4 mst_5 fal_6 ch_7 my_8 kp_9 hf H locs hP hD hS ls hl
      obtain ⟨o_10, hf, ho_10⟩ := iter_succ hf
      dsimp only [b_X6_values_1] at hf
      refine lv_iload_n hx hb dX6_values_4 rfl (lv_at hl 3 rfl) ?_
      refine lv_bipush (v := 8) hx hb dX6_values_5 (by decide) ?_
      refine lv_icmp_ge (tgt := 52) hx hb dX6_values_7 (by decide) (fun c_11 => ?_) (fun c_11 => ?_)
      · have hf := ite_t hf c_11
        refine lv_iload_n hx hb dX6_values_52 rfl (lv_at hl 2 rfl) ?_
        cases hf
        have hf := ho_10.2 _ rfl
        cases hf
        exact mIret hx hb hr hlocks hP hD hK hS dX6_values_53
      · have hf := ite_f hf c_11
        refine lv_aload_n hx hb dX6_values_10 rfl (lv_at hl 0 rfl) ?_
        refine lv_iload_n hx hb dX6_values_11 rfl (lv_at hl 3 rfl) ?_
        obtain ⟨⟨hdn_12, few_13, mst_14, fal_15, ch_16, my_17, kp_18⟩, q_19, hf⟩ := bnd hf
        refine mGovS (segs := [(W_M cI cC cT h0 h1 h2 h3 h4 h5 h6 h7 h8 h9 h10 hlg tk fx xl xp rmn hdn_3 few_4 mst_5 fal_6 al sv hi sn ch_7 my_8 kp_9 tx rd wy)]) (wcs := [(W_M cI cC cT h0 h1 h2 h3 h4 h5 h6 h7 h8 h9 h10 hlg tk fx xl xp rmn hdn_3 few_4 mst_5 fal_6 al sv hi sn ch_7 my_8 kp_9 tx rd wy)]) (w1s := [(W_M cI cC cT h0 h1 h2 h3 h4 h5 h6 h7 h8 h9 h10 hlg tk fx xl xp rmn hdn_12 few_13 mst_14 fal_15 al sv hi sn ch_16 my_17 kp_18 tx rd wy)]) (w2s := [(W_M cI cC cT h0 h1 h2 h3 h4 h5 h6 h7 h8 h9 h10 hlg tk fx xl xp rmn hdn_12 few_13 mst_14 fal_15 al sv hi sn ch_16 my_17 kp_18 tx rd wy)]) rfl rfl (va_runV (As := [.int v3_2]) (rest := []) ⟨hx, hb, hml, hown, hts⟩ (c_X6_asksValue l D cI cC cT h0 h1 h2 h3 h4 h5 h6 h7 h8 h9 h10 hlg tk fx xl xp rmn hdn_3 few_4 mst_5 fal_6 al sv hi sn ch_7 my_8 kp_9 tx rd wy H.size v3_2 hdn_12 few_13 mst_14 fal_15 ch_16 my_17 kp_18 q_19) (cwV 1 hts gX6_values_X6_asksValue rfl rfl rfl (by decide +kernel) ⟨Nat.le_of_ble_eq_true rfl, Nat.le_of_ble_eq_true rfl⟩) (mPreVS [(W_M cI cC cT h0 h1 h2 h3 h4 h5 h6 h7 h8 h9 h10 hlg tk fx xl xp rmn hdn_3 few_4 mst_5 fal_6 al sv hi sn ch_7 my_8 kp_9 tx rd wy)] rfl hP hD hK hN [0] rfl (by decide) (va_recv hK (sP hP 0 rfl) (ci := 6) (q0 := 0) rfl rfl)) rfl rfl hl.1 rfl (lv_room (Nat.le_of_ble_eq_true rfl)) dX6_values_12 ⟨Nat.zero_le _, Nat.zero_le _⟩) hP hD hS hA [0] rfl rfl rfl rfl (fun H locs hP hD hS => ?_)
        refine lv_iload_n hx hb dX6_values_15 rfl (lv_at hl 2 rfl) ?_
        refine lv_iload_n hx hb dX6_values_16 rfl (lv_at hl 1 rfl) ?_
        obtain ⟨x_20, q_22, hf⟩ := bnd hf
        have K_21 : ∀ (H : Heap) (locs : List Loc), va_P D vwCl (List.flatten [(W_M cI cC cT h0 h1 h2 h3 h4 h5 h6 h7 h8 h9 h10 hlg tk fx xl xp rmn hdn_12 few_13 mst_14 fal_15 al sv hi sn ch_16 my_17 kp_18 tx rd wy)]) H → va_D A (List.flatten [(W_M cI cC cT h0 h1 h2 h3 h4 h5 h6 h7 h8 h9 h10 hlg tk fx xl xp rmn hdn_12 few_13 mst_14 fal_15 al sv hi sn ch_16 my_17 kp_18 tx rd wy)]) → va_S A s.heap H locs → ∀ (ls : Array Slot), lv_has ls 4 [(0, .ref h0), (1, .int p0), (3, .int v3_2)] → W p l e rm_X6_values s m ([.ref h0, .int p0] : List Value).toArray below meth c H locs 0 0 (MQ below (mQi D (mTY cI cC cT) out A (List.flatten [(W_M cI cC cT h0 h1 h2 h3 h4 h5 h6 h7 h8 h9 h10 hlg tk fx xl xp rmn o_hdn o_few o_mst o_fal al sv hi sn o_ch o_my o_kp tx rd wy)])) ([.ref h0, .int p0] : List Value).toArray s 0 0 A) (F0 m 44 ls [.int x_20, .int v2_1]) := by
          intro H locs hP hD hS ls hl
          refine lv_iadd hx hb dX6_values_44 ?_
          refine lv_istore_n (lv' := [(2, .int (v2_1 + x_20)), (0, .ref h0), (1, .int p0), (3, .int v3_2)]) hx hb dX6_values_45 rfl hl (by decide) rfl (fun ls hl => ?_)
          refine lv_iinc (v := v3_2 + 1) (lv' := [(3, .int (v3_2 + 1)), (2, .int (v2_1 + x_20)), (0, .ref h0), (1, .int p0)]) hx hb dX6_values_46 hl (k := 3) rfl rfl (by decide) rfl (fun ls hl => ?_)
          refine lv_goto (tgt := 4) hx hb dX6_values_49 (by decide) ?_
          cases hf
          have hf := ho_10.1 _ rfl
          exact ih_10 _ _ _ _ _ _ _ _ _ hf _ _ hP hD hS _ (lv_sub hl [2, 3, 1, 0] rfl)
        have hf := q_22
        refine lv_if_eq (tgt := 32) hx hb dX6_values_17 (by decide) (fun c_23 => ?_) (fun c_23 => ?_)
        · have hf := ite_t hf c_23
          refine lv_aload_n hx hb dX6_values_32 rfl (lv_at hl 0 rfl) ?_
          refine va_get (D := D) (ci := 6) (v := .int hdn_12) (C := RX6) (T := TX6) (N := 20) hx hb hts hin_X6 hown hK hP 0 rfl rfl 15 (by decide) fl_152 (fun _ h9 => h9) rfl dX6_values_33 ?_
          refine lv_if_le (tgt := 43) hx hb dX6_values_36 (by decide) (fun c_24 => ?_) (fun c_24 => ?_)
          · have hf := ite_t hf c_24
            refine lv_iconst (v := 0) hx hb dX6_values_43 (by decide) ?_
            cases hf
            exact K_21 _ _ hP hD hS _ (lv_sub hl [0, 1, 3] rfl)
          · have hf := ite_f hf c_24
            refine lv_iconst (v := 1) hx hb dX6_values_39 (by decide) ?_
            refine lv_goto (tgt := 44) hx hb dX6_values_40 (by decide) ?_
            cases hf
            exact K_21 _ _ hP hD hS _ (lv_sub hl [0, 1, 3] rfl)
        · have hf := ite_f hf c_23
          refine lv_aload_n hx hb dX6_values_20 rfl (lv_at hl 0 rfl) ?_
          refine va_get (D := D) (ci := 6) (v := .int fal_15) (C := RX6) (T := TX6) (N := 20) hx hb hts hin_X6 hown hK hP 0 rfl rfl 18 (by decide) fl_161 (fun _ h9 => h9) rfl dX6_values_21 ?_
          refine lv_bipush (v := -5) hx hb dX6_values_24 (by decide) ?_
          refine lv_icmp_ne (tgt := 43) hx hb dX6_values_26 (by decide) (fun c_25 => ?_) (fun c_25 => ?_)
          · have hf := ite_f hf c_25
            refine lv_iconst (v := 0) hx hb dX6_values_43 (by decide) ?_
            cases hf
            exact K_21 _ _ hP hD hS _ (lv_sub hl [0, 1, 3] rfl)
          · have hf := ite_t hf c_25
            refine lv_goto (tgt := 39) hx hb dX6_values_29 (by decide) ?_
            refine lv_iconst (v := 1) hx hb dX6_values_39 (by decide) ?_
            refine lv_goto (tgt := 44) hx hb dX6_values_40 (by decide) ?_
            cases hf
            exact K_21 _ _ hP hD hS _ (lv_sub hl [0, 1, 3] rfl)
  exact LP_10 _ _ _ _ _ _ _ _ _ _ hf _ _ hP hD hS _ (lv_sub hl [2, 3, 1, 0] rfl)
abbrev rm_X6_waysThat : Room := { frames := 4, cells := 0, slots := 0, locals := 91 }
set_option maxHeartbeats 4000000 in
set_option maxRecDepth 100000 in
theorem c_X6_waysThat (l : Launch) (D : va_G) (cI cC cT : ClassId) (h0 h1 h2 h3 h4 h5 h6 h7 h8 h9 h10 : Nat) (hlg : Int32) (tk : Int32) (fx : Int32) (xl : Int32) (xp : Int32) (rmn : Int32) (hdn : Int32) (few : Int32) (mst : Int32) (fal : Int32) (al : Nat → Int32) (sv : Nat → Int32) (hi : Nat → Int32) (sn : Nat → Int32) (ch : Nat → Int32) (my : Nat → Int32) (kp : Nat → Int32) (tx : Nat → Int32) (rd : Nat → Int32) (wy : Nat → Int32) (sz : Nat) (p0 : Int32) (out : Int32) (o_ch : Nat → Int32) (o_my : Nat → Int32) (o_kp : Nat → Int32) (o_wy : Nat → Int32) (hf : f_X6_waysThat fx al ch my kp wy p0 = some ((out, o_ch, o_my, o_kp, o_wy))) : Met l yX6_waysThat wsX6_waysThat rm_X6_waysThat (mP D (mTY cI cC cT) [.ref h0, .int p0] (List.flatten [(W_M cI cC cT h0 h1 h2 h3 h4 h5 h6 h7 h8 h9 h10 hlg tk fx xl xp rmn hdn few mst fal al sv hi sn ch my kp tx rd wy)]) sz) (mQi D (mTY cI cC cT) out (va_A (List.flatten [(W_M cI cC cT h0 h1 h2 h3 h4 h5 h6 h7 h8 h9 h10 hlg tk fx xl xp rmn hdn few mst fal al sv hi sn ch my kp tx rd wy)]) sz) (List.flatten [(W_M cI cC cT h0 h1 h2 h3 h4 h5 h6 h7 h8 h9 h10 hlg tk fx xl xp rmn hdn few mst fal al sv hi sn o_ch o_my o_kp tx rd o_wy)])) 0 0 (va_A (List.flatten [(W_M cI cC cT h0 h1 h2 h3 h4 h5 h6 h7 h8 h9 h10 hlg tk fx xl xp rmn hdn few mst fal al sv hi sn ch my kp tx rd wy)]) sz) := by
  refine mEnt (cc := cX6_waysThat) (maxL := 5) (ret := (some .int)) (own := RX6) (Qq := fun A => mQi D (mTY cI cC cT) out A (List.flatten [(W_M cI cC cT h0 h1 h2 h3 h4 h5 h6 h7 h8 h9 h10 hlg tk fx xl xp rmn hdn few mst fal al sv hi sn o_ch o_my o_kp tx rd o_wy)])) (by decide) rfl rfl (Nat.le_of_ble_eq_true rfl) ?_
  intro p e s m below meth c A ls H locs hx hb hr hml hlocks hown hts hN hA hP hK hD hS hl
  have hin_X6 : ∀ w ∈ u_ws RX6 TX6 20, w ∈ wsX6_waysThat := by decide +kernel
  have fl_41 := hts (.fieldLink RX6 41 "SureMendingsModel" "ways" "[I") (by decide +kernel)
  have hl : lv_has ls 5 [(0, .ref h0), (1, .int p0)] := hl
  unfold f_X6_waysThat at hf
  refine lv_aload_n hx hb dX6_waysThat_0 rfl (lv_at hl 0 rfl) ?_
  obtain ⟨⟨ch_1, my_2⟩, q_3, hf⟩ := bnd hf
  refine mGovS (segs := [(W_M cI cC cT h0 h1 h2 h3 h4 h5 h6 h7 h8 h9 h10 hlg tk fx xl xp rmn hdn few mst fal al sv hi sn ch my kp tx rd wy)]) (wcs := [(W_M cI cC cT h0 h1 h2 h3 h4 h5 h6 h7 h8 h9 h10 hlg tk fx xl xp rmn hdn few mst fal al sv hi sn ch my kp tx rd wy)]) (w1s := [(W_M cI cC cT h0 h1 h2 h3 h4 h5 h6 h7 h8 h9 h10 hlg tk fx xl xp rmn hdn few mst fal al sv hi sn ch_1 my_2 kp tx rd wy)]) (w2s := [(W_M cI cC cT h0 h1 h2 h3 h4 h5 h6 h7 h8 h9 h10 hlg tk fx xl xp rmn hdn few mst fal al sv hi sn ch_1 my_2 kp tx rd wy)]) rfl rfl (va_runV (As := []) (rest := []) ⟨hx, hb, hml, hown, hts⟩ (c_X6_findsChoices l D cI cC cT h0 h1 h2 h3 h4 h5 h6 h7 h8 h9 h10 hlg tk fx xl xp rmn hdn few mst fal al sv hi sn ch my kp tx rd wy H.size ch_1 my_2 q_3) (cwV 0 hts gX6_waysThat_X6_findsChoices rfl rfl rfl (by decide +kernel) ⟨Nat.le_of_ble_eq_true rfl, Nat.le_of_ble_eq_true rfl⟩) (mPreVS [(W_M cI cC cT h0 h1 h2 h3 h4 h5 h6 h7 h8 h9 h10 hlg tk fx xl xp rmn hdn few mst fal al sv hi sn ch my kp tx rd wy)] rfl hP hD hK hN [0] rfl (by decide) (va_recv hK (sP hP 0 rfl) (ci := 6) (q0 := 0) rfl rfl)) rfl rfl hl.1 rfl (lv_room (Nat.le_of_ble_eq_true rfl)) dX6_waysThat_1 ⟨Nat.zero_le _, Nat.zero_le _⟩) hP hD hS hA [0] rfl rfl rfl rfl (fun H locs hP hD hS => ?_)
  refine lv_iconst (v := 0) hx hb dX6_waysThat_4 (by decide) ?_
  refine lv_istore_n (lv' := [(2, .int 0), (0, .ref h0), (1, .int p0)]) hx hb dX6_waysThat_5 rfl hl (by decide) rfl (fun ls hl => ?_)
  refine lv_iconst (v := 0) hx hb dX6_waysThat_6 (by decide) ?_
  refine lv_istore_n (lv' := [(3, .int 0), (2, .int 0), (0, .ref h0), (1, .int p0)]) hx hb dX6_waysThat_7 rfl hl (by decide) rfl (fun ls hl => ?_)
  have LP_6 : ∀ (n_6 : Nat) (v3_4 : Int32) (wy_5 : Nat → Int32), iter n_6 (b_X6_waysThat_4 al kp p0 my_2 ch_1) ((v3_4, wy_5)) = some ((out, o_ch, o_my, o_kp, o_wy)) → ∀ (H : Heap) (locs : List Loc), va_P D vwCl (List.flatten [(W_M cI cC cT h0 h1 h2 h3 h4 h5 h6 h7 h8 h9 h10 hlg tk fx xl xp rmn hdn few mst fal al sv hi sn ch_1 my_2 kp tx rd wy_5)]) H → va_D A (List.flatten [(W_M cI cC cT h0 h1 h2 h3 h4 h5 h6 h7 h8 h9 h10 hlg tk fx xl xp rmn hdn few mst fal al sv hi sn ch_1 my_2 kp tx rd wy_5)]) → va_S A s.heap H locs → ∀ (ls : Array Slot), lv_has ls 5 [(0, .ref h0), (1, .int p0), (3, .int v3_4)] → W p l e rm_X6_waysThat s m ([.ref h0, .int p0] : List Value).toArray below meth c H locs 0 0 (MQ below (mQi D (mTY cI cC cT) out A (List.flatten [(W_M cI cC cT h0 h1 h2 h3 h4 h5 h6 h7 h8 h9 h10 hlg tk fx xl xp rmn hdn few mst fal al sv hi sn o_ch o_my o_kp tx rd o_wy)])) ([.ref h0, .int p0] : List Value).toArray s 0 0 A) (F0 m 8 ls []) := by
    intro n_6
    induction n_6 with
    | zero => intro v3_4 wy_5 hf; exact (iter_zero hf).elim
    | succ n_6 ih_6 =>
      intro v3_4 wy_5 hf H locs hP hD hS ls hl
      obtain ⟨o_6, hf, ho_6⟩ := iter_succ hf
      dsimp only [b_X6_waysThat_4] at hf
      refine lv_iload_n hx hb dX6_waysThat_8 rfl (lv_at hl 2 rfl) ?_
      refine lv_bipush (v := 100) hx hb dX6_waysThat_9 (by decide) ?_
      refine lv_icmp_ge (tgt := 27) hx hb dX6_waysThat_11 (by decide) (fun c_7 => ?_) (fun c_7 => ?_)
      · have hf := ite_t hf c_7
        refine lv_iconst (v := 0) hx hb dX6_waysThat_27 (by decide) ?_
        refine lv_istore_n (lv' := [(2, .int 0), (0, .ref h0), (1, .int p0), (3, .int v3_4)]) hx hb dX6_waysThat_28 rfl hl (by decide) rfl (fun ls hl => ?_)
        have LP_11 : ∀ (n_11 : Nat) (v2_8 : Int32) (kp_9 : Nat → Int32) (wy_10 : Nat → Int32), iter n_11 (b_X6_waysThat_3 al p0 my_2 ch_1) ((v2_8, kp_9, wy_10)) = some o_6 → ∀ (H : Heap) (locs : List Loc), va_P D vwCl (List.flatten [(W_M cI cC cT h0 h1 h2 h3 h4 h5 h6 h7 h8 h9 h10 hlg tk fx xl xp rmn hdn few mst fal al sv hi sn ch_1 my_2 kp_9 tx rd wy_10)]) H → va_D A (List.flatten [(W_M cI cC cT h0 h1 h2 h3 h4 h5 h6 h7 h8 h9 h10 hlg tk fx xl xp rmn hdn few mst fal al sv hi sn ch_1 my_2 kp_9 tx rd wy_10)]) → va_S A s.heap H locs → ∀ (ls : Array Slot), lv_has ls 5 [(0, .ref h0), (1, .int p0), (2, .int v2_8)] → W p l e rm_X6_waysThat s m ([.ref h0, .int p0] : List Value).toArray below meth c H locs 0 0 (MQ below (mQi D (mTY cI cC cT) out A (List.flatten [(W_M cI cC cT h0 h1 h2 h3 h4 h5 h6 h7 h8 h9 h10 hlg tk fx xl xp rmn hdn few mst fal al sv hi sn o_ch o_my o_kp tx rd o_wy)])) ([.ref h0, .int p0] : List Value).toArray s 0 0 A) (F0 m 29 ls []) := by
          intro n_11
          induction n_11 with
          | zero => intro v2_8 kp_9 wy_10 hf; exact (iter_zero hf).elim
          | succ n_11 ih_11 =>
            intro v2_8 kp_9 wy_10 hf H locs hP hD hS ls hl
            obtain ⟨o_11, hf, ho_11⟩ := iter_succ hf
            dsimp only [b_X6_waysThat_3] at hf
            refine lv_iload_n hx hb dX6_waysThat_29 rfl (lv_at hl 2 rfl) ?_
            refine lv_aload_n hx hb dX6_waysThat_30 rfl (lv_at hl 0 rfl) ?_
            obtain ⟨r_12, q_13, hf⟩ := bnd hf
            refine mGoiS (segs := [(W_M cI cC cT h0 h1 h2 h3 h4 h5 h6 h7 h8 h9 h10 hlg tk fx xl xp rmn hdn few mst fal al sv hi sn ch_1 my_2 kp_9 tx rd wy_10)]) (wcs := [(W_M cI cC cT h0 h1 h2 h3 h4 h5 h6 h7 h8 h9 h10 hlg tk fx xl xp rmn hdn few mst fal al sv hi sn ch_1 my_2 kp_9 tx rd wy_10)]) (w1s := [(W_M cI cC cT h0 h1 h2 h3 h4 h5 h6 h7 h8 h9 h10 hlg tk fx xl xp rmn hdn few mst fal al sv hi sn ch_1 my_2 kp_9 tx rd wy_10)]) (w2s := [(W_M cI cC cT h0 h1 h2 h3 h4 h5 h6 h7 h8 h9 h10 hlg tk fx xl xp rmn hdn few mst fal al sv hi sn ch_1 my_2 kp_9 tx rd wy_10)]) rfl rfl (va_runV (As := []) (rest := [.int v2_8]) ⟨hx, hb, hml, hown, hts⟩ (c_X6_mendings l D cI cC cT h0 h1 h2 h3 h4 h5 h6 h7 h8 h9 h10 hlg tk fx xl xp rmn hdn few mst fal al sv hi sn ch_1 my_2 kp_9 tx rd wy_10 H.size r_12 q_13) (cwV 0 hts gX6_waysThat_X6_mendings rfl rfl rfl (by decide +kernel) ⟨Nat.le_of_ble_eq_true rfl, Nat.le_of_ble_eq_true rfl⟩) (mPreVS [(W_M cI cC cT h0 h1 h2 h3 h4 h5 h6 h7 h8 h9 h10 hlg tk fx xl xp rmn hdn few mst fal al sv hi sn ch_1 my_2 kp_9 tx rd wy_10)] rfl hP hD hK hN [0] rfl (by decide) (va_recv hK (sP hP 0 rfl) (ci := 6) (q0 := 0) rfl rfl)) rfl rfl hl.1 rfl (lv_room (Nat.le_of_ble_eq_true rfl)) dX6_waysThat_31 ⟨Nat.zero_le _, Nat.zero_le _⟩) hP hD hS hA [0] rfl rfl rfl rfl (fun H locs hP hD hS => ?_)
            refine lv_icmp_ge (tgt := 93) hx hb dX6_waysThat_34 (by decide) (fun c_14 => ?_) (fun c_14 => ?_)
            · have hf := ite_t hf c_14
              refine lv_iconst (v := 0) hx hb dX6_waysThat_93 (by decide) ?_
              refine lv_istore_n (lv' := [(3, .int 0), (0, .ref h0), (1, .int p0), (2, .int v2_8)]) hx hb dX6_waysThat_94 rfl hl (by decide) rfl (fun ls hl => ?_)
              refine lv_iconst (v := 0) hx hb dX6_waysThat_95 (by decide) ?_
              refine lv_istore (lv' := [(4, .int 0), (3, .int 0), (0, .ref h0), (1, .int p0), (2, .int v2_8)]) hx hb dX6_waysThat_96 hl (by decide) rfl (fun ls hl => ?_)
              have LP_17 : ∀ (n_17 : Nat) (v3_15 : Int32) (v4_16 : Int32), iter n_17 (b_X6_waysThat_1 p0 ch_1 my_2 kp_9 wy_10 v2_8) ((v3_15, v4_16)) = some o_11 → ∀ (H : Heap) (locs : List Loc), va_P D vwCl (List.flatten [(W_M cI cC cT h0 h1 h2 h3 h4 h5 h6 h7 h8 h9 h10 hlg tk fx xl xp rmn hdn few mst fal al sv hi sn ch_1 my_2 kp_9 tx rd wy_10)]) H → va_D A (List.flatten [(W_M cI cC cT h0 h1 h2 h3 h4 h5 h6 h7 h8 h9 h10 hlg tk fx xl xp rmn hdn few mst fal al sv hi sn ch_1 my_2 kp_9 tx rd wy_10)]) → va_S A s.heap H locs → ∀ (ls : Array Slot), lv_has ls 5 [(0, .ref h0), (1, .int p0), (2, .int v2_8), (3, .int v3_15), (4, .int v4_16)] → W p l e rm_X6_waysThat s m ([.ref h0, .int p0] : List Value).toArray below meth c H locs 0 0 (MQ below (mQi D (mTY cI cC cT) out A (List.flatten [(W_M cI cC cT h0 h1 h2 h3 h4 h5 h6 h7 h8 h9 h10 hlg tk fx xl xp rmn hdn few mst fal al sv hi sn o_ch o_my o_kp tx rd o_wy)])) ([.ref h0, .int p0] : List Value).toArray s 0 0 A) (F0 m 98 ls []) := by
                intro n_17
                induction n_17 with
                | zero => intro v3_15 v4_16 hf; exact (iter_zero hf).elim
                | succ n_17 ih_17 =>
                  intro v3_15 v4_16 hf H locs hP hD hS ls hl
                  obtain ⟨o_17, hf, ho_17⟩ := iter_succ hf
                  dsimp only [b_X6_waysThat_1] at hf
                  refine lv_iload hx hb dX6_waysThat_98 (lv_at hl 4 rfl) ?_
                  refine lv_bipush (v := 100) hx hb dX6_waysThat_100 (by decide) ?_
                  refine lv_icmp_ge (tgt := 144) hx hb dX6_waysThat_102 (by decide) (fun c_18 => ?_) (fun c_18 => ?_)
                  · have hf := ite_t hf c_18
                    refine lv_iload_n hx hb dX6_waysThat_144 rfl (lv_at hl 3 rfl) ?_
                    cases hf
                    have hf := ho_17.2 _ rfl
                    cases hf
                    have hf := ho_11.2 _ rfl
                    cases hf
                    have hf := ho_6.2 _ rfl
                    cases hf
                    exact mIret hx hb hr hlocks hP hD hK hS dX6_waysThat_145
                  · have hf := ite_f hf c_18
                    refine lv_iload_n hx hb dX6_waysThat_105 rfl (lv_at hl 3 rfl) ?_
                    refine lv_aload_n hx hb dX6_waysThat_106 rfl (lv_at hl 0 rfl) ?_
                    refine va_get (D := D) (ci := 6) (v := .ref h10) (C := RX6) (T := TX6) (N := 20) hx hb hts hin_X6 hown hK hP 0 rfl rfl 19 (by decide) fl_41 (fun _ h9 => h9) rfl dX6_waysThat_107 ?_
                    refine lv_iload hx hb dX6_waysThat_110 (lv_at hl 4 rfl) ?_
                    obtain ⟨h_19, hf⟩ := grd hf
                    refine va_iald hx hb hK hP 10 0 rfl rfl h_19 dX6_waysThat_112 ?_
                    obtain ⟨x_20, q_22, hf⟩ := bnd hf
                    have K_21 : ∀ (H : Heap) (locs : List Loc), va_P D vwCl (List.flatten [(W_M cI cC cT h0 h1 h2 h3 h4 h5 h6 h7 h8 h9 h10 hlg tk fx xl xp rmn hdn few mst fal al sv hi sn ch_1 my_2 kp_9 tx rd wy_10)]) H → va_D A (List.flatten [(W_M cI cC cT h0 h1 h2 h3 h4 h5 h6 h7 h8 h9 h10 hlg tk fx xl xp rmn hdn few mst fal al sv hi sn ch_1 my_2 kp_9 tx rd wy_10)]) → va_S A s.heap H locs → ∀ (ls : Array Slot), lv_has ls 5 [(0, .ref h0), (1, .int p0), (2, .int v2_8), (4, .int v4_16)] → W p l e rm_X6_waysThat s m ([.ref h0, .int p0] : List Value).toArray below meth c H locs 0 0 (MQ below (mQi D (mTY cI cC cT) out A (List.flatten [(W_M cI cC cT h0 h1 h2 h3 h4 h5 h6 h7 h8 h9 h10 hlg tk fx xl xp rmn hdn few mst fal al sv hi sn o_ch o_my o_kp tx rd o_wy)])) ([.ref h0, .int p0] : List Value).toArray s 0 0 A) (F0 m 136 ls [.int x_20, .int v3_15]) := by
                      intro H locs hP hD hS ls hl
                      refine lv_iadd hx hb dX6_waysThat_136 ?_
                      refine lv_istore_n (lv' := [(3, .int (v3_15 + x_20)), (0, .ref h0), (1, .int p0), (2, .int v2_8), (4, .int v4_16)]) hx hb dX6_waysThat_137 rfl hl (by decide) rfl (fun ls hl => ?_)
                      refine lv_iinc (v := v4_16 + 1) (lv' := [(4, .int (v4_16 + 1)), (3, .int (v3_15 + x_20)), (0, .ref h0), (1, .int p0), (2, .int v2_8)]) hx hb dX6_waysThat_138 hl (k := 4) rfl rfl (by decide) rfl (fun ls hl => ?_)
                      refine lv_goto (tgt := 98) hx hb dX6_waysThat_141 (by decide) ?_
                      cases hf
                      have hf := ho_17.1 _ rfl
                      exact ih_17 _ _ hf _ _ hP hD hS _ (lv_sub hl [2, 3, 4, 1, 0] rfl)
                    have hf := q_22
                    refine lv_if_le (tgt := 135) hx hb dX6_waysThat_113 (by decide) (fun c_23 => ?_) (fun c_23 => ?_)
                    · have hf := ite_t hf c_23
                      refine lv_iconst (v := 0) hx hb dX6_waysThat_135 (by decide) ?_
                      cases hf
                      exact K_21 _ _ hP hD hS _ (lv_sub hl [0, 1, 2, 4] rfl)
                    · have hf := ite_f hf c_23
                      refine lv_iload_n hx hb dX6_waysThat_116 rfl (lv_at hl 1 rfl) ?_
                      refine lv_if_eq (tgt := 131) hx hb dX6_waysThat_117 (by decide) (fun c_24 => ?_) (fun c_24 => ?_)
                      · have hf := ite_t hf c_24
                        refine lv_iconst (v := 1) hx hb dX6_waysThat_131 (by decide) ?_
                        refine lv_goto (tgt := 136) hx hb dX6_waysThat_132 (by decide) ?_
                        cases hf
                        exact K_21 _ _ hP hD hS _ (lv_sub hl [0, 1, 2, 4] rfl)
                      · have hf := ite_f hf c_24
                        refine lv_aload_n hx hb dX6_waysThat_120 rfl (lv_at hl 0 rfl) ?_
                        refine va_get (D := D) (ci := 6) (v := .ref h10) (C := RX6) (T := TX6) (N := 20) hx hb hts hin_X6 hown hK hP 0 rfl rfl 19 (by decide) fl_41 (fun _ h9 => h9) rfl dX6_waysThat_121 ?_
                        refine lv_iload hx hb dX6_waysThat_124 (lv_at hl 4 rfl) ?_
                        obtain ⟨h_25, hf⟩ := grd hf
                        refine va_iald hx hb hK hP 10 0 rfl rfl h_25 dX6_waysThat_126 ?_
                        refine lv_iload_n hx hb dX6_waysThat_127 rfl (lv_at hl 2 rfl) ?_
                        refine lv_icmp_ne (tgt := 135) hx hb dX6_waysThat_128 (by decide) (fun c_26 => ?_) (fun c_26 => ?_)
                        · have hf := ite_f hf c_26
                          refine lv_iconst (v := 0) hx hb dX6_waysThat_135 (by decide) ?_
                          cases hf
                          exact K_21 _ _ hP hD hS _ (lv_sub hl [0, 1, 2, 4] rfl)
                        · have hf := ite_t hf c_26
                          refine lv_iconst (v := 1) hx hb dX6_waysThat_131 (by decide) ?_
                          refine lv_goto (tgt := 136) hx hb dX6_waysThat_132 (by decide) ?_
                          cases hf
                          exact K_21 _ _ hP hD hS _ (lv_sub hl [0, 1, 2, 4] rfl)
              exact LP_17 _ _ _ hf _ _ hP hD hS _ (lv_sub hl [2, 3, 4, 1, 0] rfl)
            · have hf := ite_f hf c_14
              refine lv_aload_n hx hb dX6_waysThat_37 rfl (lv_at hl 0 rfl) ?_
              refine lv_iload_n hx hb dX6_waysThat_38 rfl (lv_at hl 2 rfl) ?_
              obtain ⟨kp_27, q_28, hf⟩ := bnd hf
              refine mGovS (segs := [(W_M cI cC cT h0 h1 h2 h3 h4 h5 h6 h7 h8 h9 h10 hlg tk fx xl xp rmn hdn few mst fal al sv hi sn ch_1 my_2 kp_9 tx rd wy_10)]) (wcs := [(W_M cI cC cT h0 h1 h2 h3 h4 h5 h6 h7 h8 h9 h10 hlg tk fx xl xp rmn hdn few mst fal al sv hi sn ch_1 my_2 kp_9 tx rd wy_10)]) (w1s := [(W_M cI cC cT h0 h1 h2 h3 h4 h5 h6 h7 h8 h9 h10 hlg tk fx xl xp rmn hdn few mst fal al sv hi sn ch_1 my_2 kp_27 tx rd wy_10)]) (w2s := [(W_M cI cC cT h0 h1 h2 h3 h4 h5 h6 h7 h8 h9 h10 hlg tk fx xl xp rmn hdn few mst fal al sv hi sn ch_1 my_2 kp_27 tx rd wy_10)]) rfl rfl (va_runV (As := [.int v2_8]) (rest := []) ⟨hx, hb, hml, hown, hts⟩ (c_X6_takes l D cI cC cT h0 h1 h2 h3 h4 h5 h6 h7 h8 h9 h10 hlg tk fx xl xp rmn hdn few mst fal al sv hi sn ch_1 my_2 kp_9 tx rd wy_10 H.size v2_8 kp_27 q_28) (cwV 1 hts gX6_waysThat_X6_takes rfl rfl rfl (by decide +kernel) ⟨Nat.le_of_ble_eq_true rfl, Nat.le_of_ble_eq_true rfl⟩) (mPreVS [(W_M cI cC cT h0 h1 h2 h3 h4 h5 h6 h7 h8 h9 h10 hlg tk fx xl xp rmn hdn few mst fal al sv hi sn ch_1 my_2 kp_9 tx rd wy_10)] rfl hP hD hK hN [0] rfl (by decide) (va_recv hK (sP hP 0 rfl) (ci := 6) (q0 := 0) rfl rfl)) rfl rfl hl.1 rfl (lv_room (Nat.le_of_ble_eq_true rfl)) dX6_waysThat_39 ⟨Nat.zero_le _, Nat.zero_le _⟩) hP hD hS hA [0] rfl rfl rfl rfl (fun H locs hP hD hS => ?_)
              refine lv_iconst (v := 0) hx hb dX6_waysThat_42 (by decide) ?_
              refine lv_istore_n (lv' := [(3, .int 0), (0, .ref h0), (1, .int p0), (2, .int v2_8)]) hx hb dX6_waysThat_43 rfl hl (by decide) rfl (fun ls hl => ?_)
              have LP_31 : ∀ (n_31 : Nat) (v3_29 : Int32) (wy_30 : Nat → Int32), iter n_31 (b_X6_waysThat_2 al v2_8 kp_27) ((v3_29, wy_30)) = some o_11 → ∀ (H : Heap) (locs : List Loc), va_P D vwCl (List.flatten [(W_M cI cC cT h0 h1 h2 h3 h4 h5 h6 h7 h8 h9 h10 hlg tk fx xl xp rmn hdn few mst fal al sv hi sn ch_1 my_2 kp_27 tx rd wy_30)]) H → va_D A (List.flatten [(W_M cI cC cT h0 h1 h2 h3 h4 h5 h6 h7 h8 h9 h10 hlg tk fx xl xp rmn hdn few mst fal al sv hi sn ch_1 my_2 kp_27 tx rd wy_30)]) → va_S A s.heap H locs → ∀ (ls : Array Slot), lv_has ls 5 [(0, .ref h0), (1, .int p0), (2, .int v2_8), (3, .int v3_29)] → W p l e rm_X6_waysThat s m ([.ref h0, .int p0] : List Value).toArray below meth c H locs 0 0 (MQ below (mQi D (mTY cI cC cT) out A (List.flatten [(W_M cI cC cT h0 h1 h2 h3 h4 h5 h6 h7 h8 h9 h10 hlg tk fx xl xp rmn hdn few mst fal al sv hi sn o_ch o_my o_kp tx rd o_wy)])) ([.ref h0, .int p0] : List Value).toArray s 0 0 A) (F0 m 44 ls []) := by
                intro n_31
                induction n_31 with
                | zero => intro v3_29 wy_30 hf; exact (iter_zero hf).elim
                | succ n_31 ih_31 =>
                  intro v3_29 wy_30 hf H locs hP hD hS ls hl
                  obtain ⟨o_31, hf, ho_31⟩ := iter_succ hf
                  dsimp only [b_X6_waysThat_2] at hf
                  refine lv_iload_n hx hb dX6_waysThat_44 rfl (lv_at hl 3 rfl) ?_
                  refine lv_bipush (v := 100) hx hb dX6_waysThat_45 (by decide) ?_
                  refine lv_icmp_ge (tgt := 87) hx hb dX6_waysThat_47 (by decide) (fun c_32 => ?_) (fun c_32 => ?_)
                  · have hf := ite_t hf c_32
                    refine lv_iinc (v := v2_8 + 1) (lv' := [(2, .int (v2_8 + 1)), (0, .ref h0), (1, .int p0), (3, .int v3_29)]) hx hb dX6_waysThat_87 hl (k := 2) rfl rfl (by decide) rfl (fun ls hl => ?_)
                    refine lv_goto (tgt := 29) hx hb dX6_waysThat_90 (by decide) ?_
                    cases hf
                    have hf := ho_31.2 _ rfl
                    cases hf
                    have hf := ho_11.1 _ rfl
                    exact ih_11 _ _ _ hf _ _ hP hD hS _ (lv_sub hl [1, 2, 0] rfl)
                  · have hf := ite_f hf c_32
                    refine lv_aload_n hx hb dX6_waysThat_50 rfl (lv_at hl 0 rfl) ?_
                    refine va_get (D := D) (ci := 6) (v := .ref h10) (C := RX6) (T := TX6) (N := 20) hx hb hts hin_X6 hown hK hP 0 rfl rfl 19 (by decide) fl_41 (fun _ h9 => h9) rfl dX6_waysThat_51 ?_
                    refine lv_iload_n hx hb dX6_waysThat_54 rfl (lv_at hl 3 rfl) ?_
                    refine lv_dup2_11 hx hb dX6_waysThat_55 rfl rfl ?_
                    obtain ⟨h_33, hf⟩ := grd hf
                    refine va_iald hx hb hK hP 10 0 rfl rfl h_33 dX6_waysThat_56 ?_
                    refine lv_aload_n hx hb dX6_waysThat_57 rfl (lv_at hl 0 rfl) ?_
                    refine lv_iload_n hx hb dX6_waysThat_58 rfl (lv_at hl 3 rfl) ?_
                    refine lv_bipush (v := 10) hx hb dX6_waysThat_59 (by decide) ?_
                    refine lv_idiv hx hb dX6_waysThat_61 (by decide) ?_
                    refine lv_iload_n hx hb dX6_waysThat_62 rfl (lv_at hl 3 rfl) ?_
                    refine lv_bipush (v := 10) hx hb dX6_waysThat_63 (by decide) ?_
                    refine lv_irem hx hb dX6_waysThat_65 (by decide) ?_
                    obtain ⟨r_34, q_35, hf⟩ := bnd hf
                    refine mGoiS (segs := [(W_M cI cC cT h0 h1 h2 h3 h4 h5 h6 h7 h8 h9 h10 hlg tk fx xl xp rmn hdn few mst fal al sv hi sn ch_1 my_2 kp_27 tx rd wy_30)]) (wcs := [(W_M cI cC cT h0 h1 h2 h3 h4 h5 h6 h7 h8 h9 h10 hlg tk fx xl xp rmn hdn few mst fal al sv hi sn ch_1 my_2 kp_27 tx rd wy_30)]) (w1s := [(W_M cI cC cT h0 h1 h2 h3 h4 h5 h6 h7 h8 h9 h10 hlg tk fx xl xp rmn hdn few mst fal al sv hi sn ch_1 my_2 kp_27 tx rd wy_30)]) (w2s := [(W_M cI cC cT h0 h1 h2 h3 h4 h5 h6 h7 h8 h9 h10 hlg tk fx xl xp rmn hdn few mst fal al sv hi sn ch_1 my_2 kp_27 tx rd wy_30)]) rfl rfl (va_runV (As := [.int (v3_29 / 10), .int (v3_29 - v3_29 / 10 * 10)]) (rest := [.int (wy_30 v3_29.toNatClampNeg), .int v3_29, .ref h10]) ⟨hx, hb, hml, hown, hts⟩ (c_X6_wayLong l D cI cC cT h0 h1 h2 h3 h4 h5 h6 h7 h8 h9 h10 hlg tk fx xl xp rmn hdn few mst fal al sv hi sn ch_1 my_2 kp_27 tx rd wy_30 H.size (v3_29 / 10) (v3_29 - v3_29 / 10 * 10) r_34 q_35) (cwV 2 hts gX6_waysThat_X6_wayLong rfl rfl rfl (by decide +kernel) ⟨Nat.le_of_ble_eq_true rfl, Nat.le_of_ble_eq_true rfl⟩) (mPreVS [(W_M cI cC cT h0 h1 h2 h3 h4 h5 h6 h7 h8 h9 h10 hlg tk fx xl xp rmn hdn few mst fal al sv hi sn ch_1 my_2 kp_27 tx rd wy_30)] rfl hP hD hK hN [0] rfl (by decide) (va_recv hK (sP hP 0 rfl) (ci := 6) (q0 := 0) rfl rfl)) rfl rfl hl.1 rfl (lv_room (Nat.le_of_ble_eq_true rfl)) dX6_waysThat_66 ⟨Nat.zero_le _, Nat.zero_le _⟩) hP hD hS hA [0] rfl rfl rfl rfl (fun H locs hP hD hS => ?_)
                    refine lv_bipush (v := -5) hx hb dX6_waysThat_69 (by decide) ?_
                    obtain ⟨x_36, q_38, hf⟩ := bnd hf
                    have K_37 : ∀ (H : Heap) (locs : List Loc), va_P D vwCl (List.flatten [(W_M cI cC cT h0 h1 h2 h3 h4 h5 h6 h7 h8 h9 h10 hlg tk fx xl xp rmn hdn few mst fal al sv hi sn ch_1 my_2 kp_27 tx rd wy_30)]) H → va_D A (List.flatten [(W_M cI cC cT h0 h1 h2 h3 h4 h5 h6 h7 h8 h9 h10 hlg tk fx xl xp rmn hdn few mst fal al sv hi sn ch_1 my_2 kp_27 tx rd wy_30)]) → va_S A s.heap H locs → ∀ (ls : Array Slot), lv_has ls 5 [(0, .ref h0), (1, .int p0), (2, .int v2_8), (3, .int v3_29)] → W p l e rm_X6_waysThat s m ([.ref h0, .int p0] : List Value).toArray below meth c H locs 0 0 (MQ below (mQi D (mTY cI cC cT) out A (List.flatten [(W_M cI cC cT h0 h1 h2 h3 h4 h5 h6 h7 h8 h9 h10 hlg tk fx xl xp rmn hdn few mst fal al sv hi sn o_ch o_my o_kp tx rd o_wy)])) ([.ref h0, .int p0] : List Value).toArray s 0 0 A) (F0 m 79 ls [.int x_36, .int (wy_30 v3_29.toNatClampNeg), .int v3_29, .ref h10]) := by
                      intro H locs hP hD hS ls hl
                      refine lv_iadd hx hb dX6_waysThat_79 ?_
                      obtain ⟨h_40, hf⟩ := grd hf
                      refine va_iast hx hb hK hP hD hS 10 0 rfl rfl h_40 dX6_waysThat_80 (fun H locs hP hD hS => ?_)
                      have hP : va_P D vwCl (List.flatten [(W_M cI cC cT h0 h1 h2 h3 h4 h5 h6 h7 h8 h9 h10 hlg tk fx xl xp rmn hdn few mst fal al sv hi sn ch_1 my_2 kp_27 tx rd (upd wy_30 v3_29.toNatClampNeg ((wy_30 v3_29.toNatClampNeg) + x_36)))]) H := hP
                      have hD : va_D A (List.flatten [(W_M cI cC cT h0 h1 h2 h3 h4 h5 h6 h7 h8 h9 h10 hlg tk fx xl xp rmn hdn few mst fal al sv hi sn ch_1 my_2 kp_27 tx rd (upd wy_30 v3_29.toNatClampNeg ((wy_30 v3_29.toNatClampNeg) + x_36)))]) := hD
                      refine lv_iinc (v := v3_29 + 1) (lv' := [(3, .int (v3_29 + 1)), (0, .ref h0), (1, .int p0), (2, .int v2_8)]) hx hb dX6_waysThat_81 hl (k := 3) rfl rfl (by decide) rfl (fun ls hl => ?_)
                      refine lv_goto (tgt := 44) hx hb dX6_waysThat_84 (by decide) ?_
                      cases hf
                      have hf := ho_31.1 _ rfl
                      exact ih_31 _ _ hf _ _ hP hD hS _ (lv_sub hl [1, 2, 3, 0] rfl)
                    have hf := q_38
                    refine lv_icmp_ne (tgt := 78) hx hb dX6_waysThat_71 (by decide) (fun c_39 => ?_) (fun c_39 => ?_)
                    · have hf := ite_f hf c_39
                      refine lv_iconst (v := 1) hx hb dX6_waysThat_78 (by decide) ?_
                      cases hf
                      exact K_37 _ _ hP hD hS _ (lv_sub hl [0, 1, 2, 3] rfl)
                    · have hf := ite_t hf c_39
                      refine lv_iconst (v := 0) hx hb dX6_waysThat_74 (by decide) ?_
                      refine lv_goto (tgt := 79) hx hb dX6_waysThat_75 (by decide) ?_
                      cases hf
                      exact K_37 _ _ hP hD hS _ (lv_sub hl [0, 1, 2, 3] rfl)
              exact LP_31 _ _ _ hf _ _ hP hD hS _ (lv_sub hl [1, 2, 3, 0] rfl)
        exact LP_11 _ _ _ _ hf _ _ hP hD hS _ (lv_sub hl [1, 2, 0] rfl)
      · have hf := ite_f hf c_7
        refine lv_aload_n hx hb dX6_waysThat_14 rfl (lv_at hl 0 rfl) ?_
        refine va_get (D := D) (ci := 6) (v := .ref h10) (C := RX6) (T := TX6) (N := 20) hx hb hts hin_X6 hown hK hP 0 rfl rfl 19 (by decide) fl_41 (fun _ h9 => h9) rfl dX6_waysThat_15 ?_
        refine lv_iload_n hx hb dX6_waysThat_18 rfl (lv_at hl 2 rfl) ?_
        refine lv_iconst (v := 0) hx hb dX6_waysThat_19 (by decide) ?_
        obtain ⟨h_41, hf⟩ := grd hf
        refine va_iast hx hb hK hP hD hS 10 0 rfl rfl h_41 dX6_waysThat_20 (fun H locs hP hD hS => ?_)
        have hP : va_P D vwCl (List.flatten [(W_M cI cC cT h0 h1 h2 h3 h4 h5 h6 h7 h8 h9 h10 hlg tk fx xl xp rmn hdn few mst fal al sv hi sn ch_1 my_2 kp tx rd (upd wy_5 v3_4.toNatClampNeg 0))]) H := hP
        have hD : va_D A (List.flatten [(W_M cI cC cT h0 h1 h2 h3 h4 h5 h6 h7 h8 h9 h10 hlg tk fx xl xp rmn hdn few mst fal al sv hi sn ch_1 my_2 kp tx rd (upd wy_5 v3_4.toNatClampNeg 0))]) := hD
        refine lv_iinc (v := v3_4 + 1) (lv' := [(3, .int (v3_4 + 1)), (0, .ref h0), (1, .int p0)]) hx hb dX6_waysThat_21 hl (k := 2) rfl rfl (by decide) rfl (fun ls hl => ?_)
        refine lv_goto (tgt := 8) hx hb dX6_waysThat_24 (by decide) ?_
        cases hf
        have hf := ho_6.1 _ rfl
        exact ih_6 _ _ hf _ _ hP hD hS _ (lv_sub hl [1, 2, 0] rfl)
  exact LP_6 _ _ _ hf _ _ hP hD hS _ (lv_sub hl [2, 3, 0] rfl)
abbrev rm_X6_count : Room := { frames := 7, cells := 0, slots := 0, locals := 158 }
set_option maxHeartbeats 4000000 in
set_option maxRecDepth 100000 in
theorem c_X6_count (l : Launch) (D : va_G) (cI cC cT : ClassId) (h0 h1 h2 h3 h4 h5 h6 h7 h8 h9 h10 : Nat) (hlg : Int32) (tk : Int32) (fx : Int32) (xl : Int32) (xp : Int32) (rmn : Int32) (hdn : Int32) (few : Int32) (mst : Int32) (fal : Int32) (al : Nat → Int32) (sv : Nat → Int32) (hi : Nat → Int32) (sn : Nat → Int32) (ch : Nat → Int32) (my : Nat → Int32) (kp : Nat → Int32) (tx : Nat → Int32) (rd : Nat → Int32) (wy : Nat → Int32) (sz : Nat) (p0 : Int32) (out : Int32) (o_hdn : Int32) (o_few : Int32) (o_mst : Int32) (o_fal : Int32) (o_ch : Nat → Int32) (o_my : Nat → Int32) (o_kp : Nat → Int32) (o_wy : Nat → Int32) (hf : f_X6_count hlg fx xl hdn few mst fal al ch my kp wy p0 = some ((out, o_hdn, o_few, o_mst, o_fal, o_ch, o_my, o_kp, o_wy))) : Met l yX6_count wsX6_count rm_X6_count (mP D (mTY cI cC cT) [.ref h0, .int p0] (List.flatten [(W_M cI cC cT h0 h1 h2 h3 h4 h5 h6 h7 h8 h9 h10 hlg tk fx xl xp rmn hdn few mst fal al sv hi sn ch my kp tx rd wy)]) sz) (mQi D (mTY cI cC cT) out (va_A (List.flatten [(W_M cI cC cT h0 h1 h2 h3 h4 h5 h6 h7 h8 h9 h10 hlg tk fx xl xp rmn hdn few mst fal al sv hi sn ch my kp tx rd wy)]) sz) (List.flatten [(W_M cI cC cT h0 h1 h2 h3 h4 h5 h6 h7 h8 h9 h10 hlg tk fx xl xp rmn o_hdn o_few o_mst o_fal al sv hi sn o_ch o_my o_kp tx rd o_wy)])) 0 0 (va_A (List.flatten [(W_M cI cC cT h0 h1 h2 h3 h4 h5 h6 h7 h8 h9 h10 hlg tk fx xl xp rmn hdn few mst fal al sv hi sn ch my kp tx rd wy)]) sz) := by
  refine mEnt (cc := cX6_count) (maxL := 2) (ret := (some .int)) (own := RX6) (Qq := fun A => mQi D (mTY cI cC cT) out A (List.flatten [(W_M cI cC cT h0 h1 h2 h3 h4 h5 h6 h7 h8 h9 h10 hlg tk fx xl xp rmn o_hdn o_few o_mst o_fal al sv hi sn o_ch o_my o_kp tx rd o_wy)])) (by decide) rfl rfl (Nat.le_of_ble_eq_true rfl) ?_
  intro p e s m below meth c A ls H locs hx hb hr hml hlocks hown hts hN hA hP hK hD hS hl
  have hin_X6 : ∀ w ∈ u_ws RX6 TX6 20, w ∈ wsX6_count := by decide +kernel
  have fl_7 := hts (.fieldLink RX6 7 "SureMendingsModel" "all" "[I") (by decide +kernel)
  have fl_44 := hts (.fieldLink RX6 44 "SureMendingsModel" "historyLong" "I") (by decide +kernel)
  have fl_116 := hts (.fieldLink RX6 116 "SureMendingsModel" "textLong" "I") (by decide +kernel)
  have hl : lv_has ls 2 [(0, .ref h0), (1, .int p0)] := hl
  unfold f_X6_count at hf
  refine lv_iload_n hx hb dX6_count_0 rfl (lv_at hl 1 rfl) ?_
  by_cases c_1 : p0 = 0
  · have hf := ite_t hf c_1
    refine lv_tableIn (tgt := 64) hx hb dX6_count_1 (by rw [c_1]; decide) (by rw [c_1]; decide) (by rw [c_1]; rfl) (by decide) ?_
    refine lv_aload_n hx hb dX6_count_64 rfl (lv_at hl 0 rfl) ?_
    refine va_get (D := D) (ci := 6) (v := .ref h1) (C := RX6) (T := TX6) (N := 20) hx hb hts hin_X6 hown hK hP 0 rfl rfl 0 (by decide) fl_7 (fun _ h9 => h9) rfl dX6_count_65 ?_
    refine lv_iconst (v := 0) hx hb dX6_count_68 (by decide) ?_
    refine va_iald hx hb hK hP 1 0 rfl rfl (i := 0) (by unfold vp_in; decide) dX6_count_69 ?_
    refine lv_tope (y := al 0) rfl ?_
    cases hf
    exact mIret hx hb hr hlocks hP hD hK hS dX6_count_70
  have hf := ite_f hf c_1
  by_cases c_2 : p0 = 1
  · have hf := ite_t hf c_2
    refine lv_tableIn (tgt := 71) hx hb dX6_count_1 (by rw [c_2]; decide) (by rw [c_2]; decide) (by rw [c_2]; rfl) (by decide) ?_
    refine lv_aload_n hx hb dX6_count_71 rfl (lv_at hl 0 rfl) ?_
    refine lv_iconst (v := 1) hx hb dX6_count_72 (by decide) ?_
    obtain ⟨r_3, q_4, hf⟩ := bnd hf
    refine mGoiS (segs := [(W_M cI cC cT h0 h1 h2 h3 h4 h5 h6 h7 h8 h9 h10 hlg tk fx xl xp rmn hdn few mst fal al sv hi sn ch my kp tx rd wy)]) (wcs := [(W_M cI cC cT h0 h1 h2 h3 h4 h5 h6 h7 h8 h9 h10 hlg tk fx xl xp rmn hdn few mst fal al sv hi sn ch my kp tx rd wy)]) (w1s := [(W_M cI cC cT h0 h1 h2 h3 h4 h5 h6 h7 h8 h9 h10 hlg tk fx xl xp rmn hdn few mst fal al sv hi sn ch my kp tx rd wy)]) (w2s := [(W_M cI cC cT h0 h1 h2 h3 h4 h5 h6 h7 h8 h9 h10 hlg tk fx xl xp rmn hdn few mst fal al sv hi sn ch my kp tx rd wy)]) rfl rfl (va_runV (As := [.int 1]) (rest := []) ⟨hx, hb, hml, hown, hts⟩ (c_X6_keysWith l D cI cC cT h0 h1 h2 h3 h4 h5 h6 h7 h8 h9 h10 hlg tk fx xl xp rmn hdn few mst fal al sv hi sn ch my kp tx rd wy H.size 1 r_3 q_4) (cwV 1 hts gX6_count_X6_keysWith rfl rfl rfl (by decide +kernel) ⟨Nat.le_of_ble_eq_true rfl, Nat.le_of_ble_eq_true rfl⟩) (mPreVS [(W_M cI cC cT h0 h1 h2 h3 h4 h5 h6 h7 h8 h9 h10 hlg tk fx xl xp rmn hdn few mst fal al sv hi sn ch my kp tx rd wy)] rfl hP hD hK hN [0] rfl (by decide) (va_recv hK (sP hP 0 rfl) (ci := 6) (q0 := 0) rfl rfl)) rfl rfl hl.1 rfl (lv_room (Nat.le_of_ble_eq_true rfl)) dX6_count_73 ⟨Nat.zero_le _, Nat.zero_le _⟩) hP hD hS hA [0] rfl rfl rfl rfl (fun H locs hP hD hS => ?_)
    cases hf
    exact mIret hx hb hr hlocks hP hD hK hS dX6_count_76
  have hf := ite_f hf c_2
  by_cases c_5 : p0 = 2
  · have hf := ite_t hf c_5
    refine lv_tableIn (tgt := 77) hx hb dX6_count_1 (by rw [c_5]; decide) (by rw [c_5]; decide) (by rw [c_5]; rfl) (by decide) ?_
    refine lv_aload_n hx hb dX6_count_77 rfl (lv_at hl 0 rfl) ?_
    refine lv_iconst (v := 2) hx hb dX6_count_78 (by decide) ?_
    obtain ⟨r_6, q_7, hf⟩ := bnd hf
    refine mGoiS (segs := [(W_M cI cC cT h0 h1 h2 h3 h4 h5 h6 h7 h8 h9 h10 hlg tk fx xl xp rmn hdn few mst fal al sv hi sn ch my kp tx rd wy)]) (wcs := [(W_M cI cC cT h0 h1 h2 h3 h4 h5 h6 h7 h8 h9 h10 hlg tk fx xl xp rmn hdn few mst fal al sv hi sn ch my kp tx rd wy)]) (w1s := [(W_M cI cC cT h0 h1 h2 h3 h4 h5 h6 h7 h8 h9 h10 hlg tk fx xl xp rmn hdn few mst fal al sv hi sn ch my kp tx rd wy)]) (w2s := [(W_M cI cC cT h0 h1 h2 h3 h4 h5 h6 h7 h8 h9 h10 hlg tk fx xl xp rmn hdn few mst fal al sv hi sn ch my kp tx rd wy)]) rfl rfl (va_runV (As := [.int 2]) (rest := []) ⟨hx, hb, hml, hown, hts⟩ (c_X6_keysWith l D cI cC cT h0 h1 h2 h3 h4 h5 h6 h7 h8 h9 h10 hlg tk fx xl xp rmn hdn few mst fal al sv hi sn ch my kp tx rd wy H.size 2 r_6 q_7) (cwV 1 hts gX6_count_X6_keysWith rfl rfl rfl (by decide +kernel) ⟨Nat.le_of_ble_eq_true rfl, Nat.le_of_ble_eq_true rfl⟩) (mPreVS [(W_M cI cC cT h0 h1 h2 h3 h4 h5 h6 h7 h8 h9 h10 hlg tk fx xl xp rmn hdn few mst fal al sv hi sn ch my kp tx rd wy)] rfl hP hD hK hN [0] rfl (by decide) (va_recv hK (sP hP 0 rfl) (ci := 6) (q0 := 0) rfl rfl)) rfl rfl hl.1 rfl (lv_room (Nat.le_of_ble_eq_true rfl)) dX6_count_79 ⟨Nat.zero_le _, Nat.zero_le _⟩) hP hD hS hA [0] rfl rfl rfl rfl (fun H locs hP hD hS => ?_)
    cases hf
    exact mIret hx hb hr hlocks hP hD hK hS dX6_count_82
  have hf := ite_f hf c_5
  by_cases c_8 : p0 = 3
  · have hf := ite_t hf c_8
    refine lv_tableIn (tgt := 83) hx hb dX6_count_1 (by rw [c_8]; decide) (by rw [c_8]; decide) (by rw [c_8]; rfl) (by decide) ?_
    refine lv_aload_n hx hb dX6_count_83 rfl (lv_at hl 0 rfl) ?_
    obtain ⟨⟨ch_9, my_10⟩, q_11, hf⟩ := bnd hf
    refine mGovS (segs := [(W_M cI cC cT h0 h1 h2 h3 h4 h5 h6 h7 h8 h9 h10 hlg tk fx xl xp rmn hdn few mst fal al sv hi sn ch my kp tx rd wy)]) (wcs := [(W_M cI cC cT h0 h1 h2 h3 h4 h5 h6 h7 h8 h9 h10 hlg tk fx xl xp rmn hdn few mst fal al sv hi sn ch my kp tx rd wy)]) (w1s := [(W_M cI cC cT h0 h1 h2 h3 h4 h5 h6 h7 h8 h9 h10 hlg tk fx xl xp rmn hdn few mst fal al sv hi sn ch_9 my_10 kp tx rd wy)]) (w2s := [(W_M cI cC cT h0 h1 h2 h3 h4 h5 h6 h7 h8 h9 h10 hlg tk fx xl xp rmn hdn few mst fal al sv hi sn ch_9 my_10 kp tx rd wy)]) rfl rfl (va_runV (As := []) (rest := []) ⟨hx, hb, hml, hown, hts⟩ (c_X6_findsChoices l D cI cC cT h0 h1 h2 h3 h4 h5 h6 h7 h8 h9 h10 hlg tk fx xl xp rmn hdn few mst fal al sv hi sn ch my kp tx rd wy H.size ch_9 my_10 q_11) (cwV 0 hts gX6_count_X6_findsChoices rfl rfl rfl (by decide +kernel) ⟨Nat.le_of_ble_eq_true rfl, Nat.le_of_ble_eq_true rfl⟩) (mPreVS [(W_M cI cC cT h0 h1 h2 h3 h4 h5 h6 h7 h8 h9 h10 hlg tk fx xl xp rmn hdn few mst fal al sv hi sn ch my kp tx rd wy)] rfl hP hD hK hN [0] rfl (by decide) (va_recv hK (sP hP 0 rfl) (ci := 6) (q0 := 0) rfl rfl)) rfl rfl hl.1 rfl (lv_room (Nat.le_of_ble_eq_true rfl)) dX6_count_84 ⟨Nat.zero_le _, Nat.zero_le _⟩) hP hD hS hA [0] rfl rfl rfl rfl (fun H locs hP hD hS => ?_)
    refine lv_aload_n hx hb dX6_count_87 rfl (lv_at hl 0 rfl) ?_
    obtain ⟨r_12, q_13, hf⟩ := bnd hf
    refine mGoiS (segs := [(W_M cI cC cT h0 h1 h2 h3 h4 h5 h6 h7 h8 h9 h10 hlg tk fx xl xp rmn hdn few mst fal al sv hi sn ch_9 my_10 kp tx rd wy)]) (wcs := [(W_M cI cC cT h0 h1 h2 h3 h4 h5 h6 h7 h8 h9 h10 hlg tk fx xl xp rmn hdn few mst fal al sv hi sn ch_9 my_10 kp tx rd wy)]) (w1s := [(W_M cI cC cT h0 h1 h2 h3 h4 h5 h6 h7 h8 h9 h10 hlg tk fx xl xp rmn hdn few mst fal al sv hi sn ch_9 my_10 kp tx rd wy)]) (w2s := [(W_M cI cC cT h0 h1 h2 h3 h4 h5 h6 h7 h8 h9 h10 hlg tk fx xl xp rmn hdn few mst fal al sv hi sn ch_9 my_10 kp tx rd wy)]) rfl rfl (va_runV (As := []) (rest := []) ⟨hx, hb, hml, hown, hts⟩ (c_X6_mendings l D cI cC cT h0 h1 h2 h3 h4 h5 h6 h7 h8 h9 h10 hlg tk fx xl xp rmn hdn few mst fal al sv hi sn ch_9 my_10 kp tx rd wy H.size r_12 q_13) (cwV 0 hts gX6_count_X6_mendings rfl rfl rfl (by decide +kernel) ⟨Nat.le_of_ble_eq_true rfl, Nat.le_of_ble_eq_true rfl⟩) (mPreVS [(W_M cI cC cT h0 h1 h2 h3 h4 h5 h6 h7 h8 h9 h10 hlg tk fx xl xp rmn hdn few mst fal al sv hi sn ch_9 my_10 kp tx rd wy)] rfl hP hD hK hN [0] rfl (by decide) (va_recv hK (sP hP 0 rfl) (ci := 6) (q0 := 0) rfl rfl)) rfl rfl hl.1 rfl (lv_room (Nat.le_of_ble_eq_true rfl)) dX6_count_88 ⟨Nat.zero_le _, Nat.zero_le _⟩) hP hD hS hA [0] rfl rfl rfl rfl (fun H locs hP hD hS => ?_)
    cases hf
    exact mIret hx hb hr hlocks hP hD hK hS dX6_count_91
  have hf := ite_f hf c_8
  by_cases c_14 : p0 = 4
  · have hf := ite_t hf c_14
    refine lv_tableIn (tgt := 92) hx hb dX6_count_1 (by rw [c_14]; decide) (by rw [c_14]; decide) (by rw [c_14]; rfl) (by decide) ?_
    refine lv_aload_n hx hb dX6_count_92 rfl (lv_at hl 0 rfl) ?_
    obtain ⟨⟨r_15, ch_16, my_17⟩, q_18, hf⟩ := bnd hf
    refine mGoiS (segs := [(W_M cI cC cT h0 h1 h2 h3 h4 h5 h6 h7 h8 h9 h10 hlg tk fx xl xp rmn hdn few mst fal al sv hi sn ch my kp tx rd wy)]) (wcs := [(W_M cI cC cT h0 h1 h2 h3 h4 h5 h6 h7 h8 h9 h10 hlg tk fx xl xp rmn hdn few mst fal al sv hi sn ch my kp tx rd wy)]) (w1s := [(W_M cI cC cT h0 h1 h2 h3 h4 h5 h6 h7 h8 h9 h10 hlg tk fx xl xp rmn hdn few mst fal al sv hi sn ch_16 my_17 kp tx rd wy)]) (w2s := [(W_M cI cC cT h0 h1 h2 h3 h4 h5 h6 h7 h8 h9 h10 hlg tk fx xl xp rmn hdn few mst fal al sv hi sn ch_16 my_17 kp tx rd wy)]) rfl rfl (va_runV (As := []) (rest := []) ⟨hx, hb, hml, hown, hts⟩ (c_X6_sureRows l D cI cC cT h0 h1 h2 h3 h4 h5 h6 h7 h8 h9 h10 hlg tk fx xl xp rmn hdn few mst fal al sv hi sn ch my kp tx rd wy H.size r_15 ch_16 my_17 q_18) (cwV 0 hts gX6_count_X6_sureRows rfl rfl rfl (by decide +kernel) ⟨Nat.le_of_ble_eq_true rfl, Nat.le_of_ble_eq_true rfl⟩) (mPreVS [(W_M cI cC cT h0 h1 h2 h3 h4 h5 h6 h7 h8 h9 h10 hlg tk fx xl xp rmn hdn few mst fal al sv hi sn ch my kp tx rd wy)] rfl hP hD hK hN [0] rfl (by decide) (va_recv hK (sP hP 0 rfl) (ci := 6) (q0 := 0) rfl rfl)) rfl rfl hl.1 rfl (lv_room (Nat.le_of_ble_eq_true rfl)) dX6_count_93 ⟨Nat.zero_le _, Nat.zero_le _⟩) hP hD hS hA [0] rfl rfl rfl rfl (fun H locs hP hD hS => ?_)
    cases hf
    exact mIret hx hb hr hlocks hP hD hK hS dX6_count_96
  have hf := ite_f hf c_14
  by_cases c_19 : p0 = 5
  · have hf := ite_t hf c_19
    refine lv_tableIn (tgt := 97) hx hb dX6_count_1 (by rw [c_19]; decide) (by rw [c_19]; decide) (by rw [c_19]; rfl) (by decide) ?_
    refine lv_aload_n hx hb dX6_count_97 rfl (lv_at hl 0 rfl) ?_
    refine lv_iload_n hx hb dX6_count_98 rfl (lv_at hl 1 rfl) ?_
    refine lv_iconst (v := 5) hx hb dX6_count_99 (by decide) ?_
    refine lv_icmp_ne (tgt := 107) hx hb dX6_count_100 (by decide) (fun c => absurd c_19 c) (fun _ => ?_)
    refine lv_iconst (v := 1) hx hb dX6_count_103 (by decide) ?_
    refine lv_goto (tgt := 108) hx hb dX6_count_104 (by decide) ?_
    obtain ⟨⟨r_20, hdn_21, few_22, mst_23, fal_24, ch_25, my_26, kp_27⟩, q_28, hf⟩ := bnd hf
    refine mGoiS (segs := [(W_M cI cC cT h0 h1 h2 h3 h4 h5 h6 h7 h8 h9 h10 hlg tk fx xl xp rmn hdn few mst fal al sv hi sn ch my kp tx rd wy)]) (wcs := [(W_M cI cC cT h0 h1 h2 h3 h4 h5 h6 h7 h8 h9 h10 hlg tk fx xl xp rmn hdn few mst fal al sv hi sn ch my kp tx rd wy)]) (w1s := [(W_M cI cC cT h0 h1 h2 h3 h4 h5 h6 h7 h8 h9 h10 hlg tk fx xl xp rmn hdn_21 few_22 mst_23 fal_24 al sv hi sn ch_25 my_26 kp_27 tx rd wy)]) (w2s := [(W_M cI cC cT h0 h1 h2 h3 h4 h5 h6 h7 h8 h9 h10 hlg tk fx xl xp rmn hdn_21 few_22 mst_23 fal_24 al sv hi sn ch_25 my_26 kp_27 tx rd wy)]) rfl rfl (va_runV (As := [.int 1]) (rest := []) ⟨hx, hb, hml, hown, hts⟩ (c_X6_values l D cI cC cT h0 h1 h2 h3 h4 h5 h6 h7 h8 h9 h10 hlg tk fx xl xp rmn hdn few mst fal al sv hi sn ch my kp tx rd wy H.size 1 r_20 hdn_21 few_22 mst_23 fal_24 ch_25 my_26 kp_27 q_28) (cwV 1 hts gX6_count_X6_values rfl rfl rfl (by decide +kernel) ⟨Nat.le_of_ble_eq_true rfl, Nat.le_of_ble_eq_true rfl⟩) (mPreVS [(W_M cI cC cT h0 h1 h2 h3 h4 h5 h6 h7 h8 h9 h10 hlg tk fx xl xp rmn hdn few mst fal al sv hi sn ch my kp tx rd wy)] rfl hP hD hK hN [0] rfl (by decide) (va_recv hK (sP hP 0 rfl) (ci := 6) (q0 := 0) rfl rfl)) rfl rfl hl.1 rfl (lv_room (Nat.le_of_ble_eq_true rfl)) dX6_count_108 ⟨Nat.zero_le _, Nat.zero_le _⟩) hP hD hS hA [0] rfl rfl rfl rfl (fun H locs hP hD hS => ?_)
    cases hf
    exact mIret hx hb hr hlocks hP hD hK hS dX6_count_111
  have hf := ite_f hf c_19
  by_cases c_29 : p0 = 6
  · have hf := ite_t hf c_29
    refine lv_tableIn (tgt := 97) hx hb dX6_count_1 (by rw [c_29]; decide) (by rw [c_29]; decide) (by rw [c_29]; rfl) (by decide) ?_
    refine lv_aload_n hx hb dX6_count_97 rfl (lv_at hl 0 rfl) ?_
    refine lv_iload_n hx hb dX6_count_98 rfl (lv_at hl 1 rfl) ?_
    refine lv_iconst (v := 5) hx hb dX6_count_99 (by decide) ?_
    obtain ⟨x_30, q_32, hf⟩ := bnd hf
    have K_31 : ∀ (H : Heap) (locs : List Loc), va_P D vwCl (List.flatten [(W_M cI cC cT h0 h1 h2 h3 h4 h5 h6 h7 h8 h9 h10 hlg tk fx xl xp rmn hdn few mst fal al sv hi sn ch my kp tx rd wy)]) H → va_D A (List.flatten [(W_M cI cC cT h0 h1 h2 h3 h4 h5 h6 h7 h8 h9 h10 hlg tk fx xl xp rmn hdn few mst fal al sv hi sn ch my kp tx rd wy)]) → va_S A s.heap H locs → ∀ (ls : Array Slot), lv_has ls 2 [] → W p l e rm_X6_count s m ([.ref h0, .int p0] : List Value).toArray below meth c H locs 0 0 (MQ below (mQi D (mTY cI cC cT) out A (List.flatten [(W_M cI cC cT h0 h1 h2 h3 h4 h5 h6 h7 h8 h9 h10 hlg tk fx xl xp rmn o_hdn o_few o_mst o_fal al sv hi sn o_ch o_my o_kp tx rd o_wy)])) ([.ref h0, .int p0] : List Value).toArray s 0 0 A) (F0 m 108 ls [.int x_30, .ref h0]) := by
      intro H locs hP hD hS ls hl
      obtain ⟨⟨r_34, hdn_35, few_36, mst_37, fal_38, ch_39, my_40, kp_41⟩, q_42, hf⟩ := bnd hf
      refine mGoiS (segs := [(W_M cI cC cT h0 h1 h2 h3 h4 h5 h6 h7 h8 h9 h10 hlg tk fx xl xp rmn hdn few mst fal al sv hi sn ch my kp tx rd wy)]) (wcs := [(W_M cI cC cT h0 h1 h2 h3 h4 h5 h6 h7 h8 h9 h10 hlg tk fx xl xp rmn hdn few mst fal al sv hi sn ch my kp tx rd wy)]) (w1s := [(W_M cI cC cT h0 h1 h2 h3 h4 h5 h6 h7 h8 h9 h10 hlg tk fx xl xp rmn hdn_35 few_36 mst_37 fal_38 al sv hi sn ch_39 my_40 kp_41 tx rd wy)]) (w2s := [(W_M cI cC cT h0 h1 h2 h3 h4 h5 h6 h7 h8 h9 h10 hlg tk fx xl xp rmn hdn_35 few_36 mst_37 fal_38 al sv hi sn ch_39 my_40 kp_41 tx rd wy)]) rfl rfl (va_runV (As := [.int x_30]) (rest := []) ⟨hx, hb, hml, hown, hts⟩ (c_X6_values l D cI cC cT h0 h1 h2 h3 h4 h5 h6 h7 h8 h9 h10 hlg tk fx xl xp rmn hdn few mst fal al sv hi sn ch my kp tx rd wy H.size x_30 r_34 hdn_35 few_36 mst_37 fal_38 ch_39 my_40 kp_41 q_42) (cwV 1 hts gX6_count_X6_values rfl rfl rfl (by decide +kernel) ⟨Nat.le_of_ble_eq_true rfl, Nat.le_of_ble_eq_true rfl⟩) (mPreVS [(W_M cI cC cT h0 h1 h2 h3 h4 h5 h6 h7 h8 h9 h10 hlg tk fx xl xp rmn hdn few mst fal al sv hi sn ch my kp tx rd wy)] rfl hP hD hK hN [0] rfl (by decide) (va_recv hK (sP hP 0 rfl) (ci := 6) (q0 := 0) rfl rfl)) rfl rfl hl.1 rfl (lv_room (Nat.le_of_ble_eq_true rfl)) dX6_count_108 ⟨Nat.zero_le _, Nat.zero_le _⟩) hP hD hS hA [0] rfl rfl rfl rfl (fun H locs hP hD hS => ?_)
      cases hf
      exact mIret hx hb hr hlocks hP hD hK hS dX6_count_111
    have hf := q_32
    refine lv_icmp_ne (tgt := 107) hx hb dX6_count_100 (by decide) (fun c_33 => ?_) (fun c_33 => ?_)
    · have hf := ite_f hf c_33
      refine lv_iconst (v := 0) hx hb dX6_count_107 (by decide) ?_
      cases hf
      exact K_31 _ _ hP hD hS _ (lv_sub hl [] rfl)
    · have hf := ite_t hf c_33
      refine lv_iconst (v := 1) hx hb dX6_count_103 (by decide) ?_
      refine lv_goto (tgt := 108) hx hb dX6_count_104 (by decide) ?_
      cases hf
      exact K_31 _ _ hP hD hS _ (lv_sub hl [] rfl)
  have hf := ite_f hf c_29
  by_cases c_43 : p0 = 7
  · have hf := ite_t hf c_43
    refine lv_tableIn (tgt := 112) hx hb dX6_count_1 (by rw [c_43]; decide) (by rw [c_43]; decide) (by rw [c_43]; rfl) (by decide) ?_
    refine lv_aload_n hx hb dX6_count_112 rfl (lv_at hl 0 rfl) ?_
    refine lv_iload_n hx hb dX6_count_113 rfl (lv_at hl 1 rfl) ?_
    refine lv_bipush (v := 7) hx hb dX6_count_114 (by decide) ?_
    refine lv_icmp_ne (tgt := 123) hx hb dX6_count_116 (by decide) (fun c => absurd c_43 c) (fun _ => ?_)
    refine lv_iconst (v := 1) hx hb dX6_count_119 (by decide) ?_
    refine lv_goto (tgt := 124) hx hb dX6_count_120 (by decide) ?_
    obtain ⟨⟨r_44, ch_45, my_46, kp_47, wy_48⟩, q_49, hf⟩ := bnd hf
    refine mGoiS (segs := [(W_M cI cC cT h0 h1 h2 h3 h4 h5 h6 h7 h8 h9 h10 hlg tk fx xl xp rmn hdn few mst fal al sv hi sn ch my kp tx rd wy)]) (wcs := [(W_M cI cC cT h0 h1 h2 h3 h4 h5 h6 h7 h8 h9 h10 hlg tk fx xl xp rmn hdn few mst fal al sv hi sn ch my kp tx rd wy)]) (w1s := [(W_M cI cC cT h0 h1 h2 h3 h4 h5 h6 h7 h8 h9 h10 hlg tk fx xl xp rmn hdn few mst fal al sv hi sn ch_45 my_46 kp_47 tx rd wy_48)]) (w2s := [(W_M cI cC cT h0 h1 h2 h3 h4 h5 h6 h7 h8 h9 h10 hlg tk fx xl xp rmn hdn few mst fal al sv hi sn ch_45 my_46 kp_47 tx rd wy_48)]) rfl rfl (va_runV (As := [.int 1]) (rest := []) ⟨hx, hb, hml, hown, hts⟩ (c_X6_waysThat l D cI cC cT h0 h1 h2 h3 h4 h5 h6 h7 h8 h9 h10 hlg tk fx xl xp rmn hdn few mst fal al sv hi sn ch my kp tx rd wy H.size 1 r_44 ch_45 my_46 kp_47 wy_48 q_49) (cwV 1 hts gX6_count_X6_waysThat rfl rfl rfl (by decide +kernel) ⟨Nat.le_of_ble_eq_true rfl, Nat.le_of_ble_eq_true rfl⟩) (mPreVS [(W_M cI cC cT h0 h1 h2 h3 h4 h5 h6 h7 h8 h9 h10 hlg tk fx xl xp rmn hdn few mst fal al sv hi sn ch my kp tx rd wy)] rfl hP hD hK hN [0] rfl (by decide) (va_recv hK (sP hP 0 rfl) (ci := 6) (q0 := 0) rfl rfl)) rfl rfl hl.1 rfl (lv_room (Nat.le_of_ble_eq_true rfl)) dX6_count_124 ⟨Nat.zero_le _, Nat.zero_le _⟩) hP hD hS hA [0] rfl rfl rfl rfl (fun H locs hP hD hS => ?_)
    cases hf
    exact mIret hx hb hr hlocks hP hD hK hS dX6_count_127
  have hf := ite_f hf c_43
  by_cases c_50 : p0 = 8
  · have hf := ite_t hf c_50
    refine lv_tableIn (tgt := 112) hx hb dX6_count_1 (by rw [c_50]; decide) (by rw [c_50]; decide) (by rw [c_50]; rfl) (by decide) ?_
    refine lv_aload_n hx hb dX6_count_112 rfl (lv_at hl 0 rfl) ?_
    refine lv_iload_n hx hb dX6_count_113 rfl (lv_at hl 1 rfl) ?_
    refine lv_bipush (v := 7) hx hb dX6_count_114 (by decide) ?_
    obtain ⟨x_51, q_53, hf⟩ := bnd hf
    have K_52 : ∀ (H : Heap) (locs : List Loc), va_P D vwCl (List.flatten [(W_M cI cC cT h0 h1 h2 h3 h4 h5 h6 h7 h8 h9 h10 hlg tk fx xl xp rmn hdn few mst fal al sv hi sn ch my kp tx rd wy)]) H → va_D A (List.flatten [(W_M cI cC cT h0 h1 h2 h3 h4 h5 h6 h7 h8 h9 h10 hlg tk fx xl xp rmn hdn few mst fal al sv hi sn ch my kp tx rd wy)]) → va_S A s.heap H locs → ∀ (ls : Array Slot), lv_has ls 2 [] → W p l e rm_X6_count s m ([.ref h0, .int p0] : List Value).toArray below meth c H locs 0 0 (MQ below (mQi D (mTY cI cC cT) out A (List.flatten [(W_M cI cC cT h0 h1 h2 h3 h4 h5 h6 h7 h8 h9 h10 hlg tk fx xl xp rmn o_hdn o_few o_mst o_fal al sv hi sn o_ch o_my o_kp tx rd o_wy)])) ([.ref h0, .int p0] : List Value).toArray s 0 0 A) (F0 m 124 ls [.int x_51, .ref h0]) := by
      intro H locs hP hD hS ls hl
      obtain ⟨⟨r_55, ch_56, my_57, kp_58, wy_59⟩, q_60, hf⟩ := bnd hf
      refine mGoiS (segs := [(W_M cI cC cT h0 h1 h2 h3 h4 h5 h6 h7 h8 h9 h10 hlg tk fx xl xp rmn hdn few mst fal al sv hi sn ch my kp tx rd wy)]) (wcs := [(W_M cI cC cT h0 h1 h2 h3 h4 h5 h6 h7 h8 h9 h10 hlg tk fx xl xp rmn hdn few mst fal al sv hi sn ch my kp tx rd wy)]) (w1s := [(W_M cI cC cT h0 h1 h2 h3 h4 h5 h6 h7 h8 h9 h10 hlg tk fx xl xp rmn hdn few mst fal al sv hi sn ch_56 my_57 kp_58 tx rd wy_59)]) (w2s := [(W_M cI cC cT h0 h1 h2 h3 h4 h5 h6 h7 h8 h9 h10 hlg tk fx xl xp rmn hdn few mst fal al sv hi sn ch_56 my_57 kp_58 tx rd wy_59)]) rfl rfl (va_runV (As := [.int x_51]) (rest := []) ⟨hx, hb, hml, hown, hts⟩ (c_X6_waysThat l D cI cC cT h0 h1 h2 h3 h4 h5 h6 h7 h8 h9 h10 hlg tk fx xl xp rmn hdn few mst fal al sv hi sn ch my kp tx rd wy H.size x_51 r_55 ch_56 my_57 kp_58 wy_59 q_60) (cwV 1 hts gX6_count_X6_waysThat rfl rfl rfl (by decide +kernel) ⟨Nat.le_of_ble_eq_true rfl, Nat.le_of_ble_eq_true rfl⟩) (mPreVS [(W_M cI cC cT h0 h1 h2 h3 h4 h5 h6 h7 h8 h9 h10 hlg tk fx xl xp rmn hdn few mst fal al sv hi sn ch my kp tx rd wy)] rfl hP hD hK hN [0] rfl (by decide) (va_recv hK (sP hP 0 rfl) (ci := 6) (q0 := 0) rfl rfl)) rfl rfl hl.1 rfl (lv_room (Nat.le_of_ble_eq_true rfl)) dX6_count_124 ⟨Nat.zero_le _, Nat.zero_le _⟩) hP hD hS hA [0] rfl rfl rfl rfl (fun H locs hP hD hS => ?_)
      cases hf
      exact mIret hx hb hr hlocks hP hD hK hS dX6_count_127
    have hf := q_53
    refine lv_icmp_ne (tgt := 123) hx hb dX6_count_116 (by decide) (fun c_54 => ?_) (fun c_54 => ?_)
    · have hf := ite_f hf c_54
      refine lv_iconst (v := 0) hx hb dX6_count_123 (by decide) ?_
      cases hf
      exact K_52 _ _ hP hD hS _ (lv_sub hl [] rfl)
    · have hf := ite_t hf c_54
      refine lv_iconst (v := 1) hx hb dX6_count_119 (by decide) ?_
      refine lv_goto (tgt := 124) hx hb dX6_count_120 (by decide) ?_
      cases hf
      exact K_52 _ _ hP hD hS _ (lv_sub hl [] rfl)
  have hf := ite_f hf c_50
  by_cases c_61 : p0 = 9
  · have hf := ite_t hf c_61
    refine lv_tableIn (tgt := 128) hx hb dX6_count_1 (by rw [c_61]; decide) (by rw [c_61]; decide) (by rw [c_61]; rfl) (by decide) ?_
    refine lv_aload_n hx hb dX6_count_128 rfl (lv_at hl 0 rfl) ?_
    refine va_get (D := D) (ci := 6) (v := .ref h1) (C := RX6) (T := TX6) (N := 20) hx hb hts hin_X6 hown hK hP 0 rfl rfl 0 (by decide) fl_7 (fun _ h9 => h9) rfl dX6_count_129 ?_
    refine lv_iconst (v := 1) hx hb dX6_count_132 (by decide) ?_
    refine va_iald hx hb hK hP 1 0 rfl rfl (i := 1) (by unfold vp_in; decide) dX6_count_133 ?_
    refine lv_tope (y := al 1) rfl ?_
    cases hf
    exact mIret hx hb hr hlocks hP hD hK hS dX6_count_134
  have hf := ite_f hf c_61
  by_cases c_62 : p0 = 10
  · have hf := ite_t hf c_62
    refine lv_tableIn (tgt := 135) hx hb dX6_count_1 (by rw [c_62]; decide) (by rw [c_62]; decide) (by rw [c_62]; rfl) (by decide) ?_
    refine lv_aload_n hx hb dX6_count_135 rfl (lv_at hl 0 rfl) ?_
    refine va_get (D := D) (ci := 6) (v := .int hlg) (C := RX6) (T := TX6) (N := 20) hx hb hts hin_X6 hown hK hP 0 rfl rfl 3 (by decide) fl_44 (fun _ h9 => h9) rfl dX6_count_136 ?_
    cases hf
    exact mIret hx hb hr hlocks hP hD hK hS dX6_count_139
  have hf := ite_f hf c_62
  by_cases c_63 : p0 = 11
  · have hf := ite_t hf c_63
    refine lv_tableIn (tgt := 140) hx hb dX6_count_1 (by rw [c_63]; decide) (by rw [c_63]; decide) (by rw [c_63]; rfl) (by decide) ?_
    refine lv_aload_n hx hb dX6_count_140 rfl (lv_at hl 0 rfl) ?_
    refine va_get (D := D) (ci := 6) (v := .int xl) (C := RX6) (T := TX6) (N := 20) hx hb hts hin_X6 hown hK hP 0 rfl rfl 11 (by decide) fl_116 (fun _ h9 => h9) rfl dX6_count_141 ?_
    cases hf
    exact mIret hx hb hr hlocks hP hD hK hS dX6_count_144
  have hf := ite_f hf c_63
  refine lv_tableOut (tgt := 145) hx hb dX6_count_1 (tsw_out 11 (by decide) (fun j hj => by rcases (show j = 0 ∨ j = 1 ∨ j = 2 ∨ j = 3 ∨ j = 4 ∨ j = 5 ∨ j = 6 ∨ j = 7 ∨ j = 8 ∨ j = 9 ∨ j = 10 ∨ j = 11 by omega) with rfl | rfl | rfl | rfl | rfl | rfl | rfl | rfl | rfl | rfl | rfl | rfl <;> assumption)) (by decide) ?_
  refine lv_bipush (v := -2) hx hb dX6_count_145 (by decide) ?_
  cases hf
  exact mIret hx hb hr hlocks hP hD hK hS dX6_count_147
abbrev rm_X6_isHere : Room := { frames := 1, cells := 0, slots := 0, locals := 25 }
set_option maxHeartbeats 4000000 in
set_option maxRecDepth 100000 in
theorem c_X6_isHere (l : Launch) (D : va_G) (cI cC cT : ClassId) (h0 h1 h2 h3 h4 h5 h6 h7 h8 h9 h10 : Nat) (hlg : Int32) (tk : Int32) (fx : Int32) (xl : Int32) (xp : Int32) (rmn : Int32) (hdn : Int32) (few : Int32) (mst : Int32) (fal : Int32) (al : Nat → Int32) (sv : Nat → Int32) (hi : Nat → Int32) (sn : Nat → Int32) (ch : Nat → Int32) (my : Nat → Int32) (kp : Nat → Int32) (tx : Nat → Int32) (rd : Nat → Int32) (wy : Nat → Int32) (sz : Nat) (p0 : Int32) (p1 : Int32) (out : Int32) (hf : f_X6_isHere xl xp tx p0 p1 = some out) : Met l yX6_isHere wsX6_isHere rm_X6_isHere (mP D (mTY cI cC cT) [.ref h0, .int p0, .int p1] (List.flatten [(W_M cI cC cT h0 h1 h2 h3 h4 h5 h6 h7 h8 h9 h10 hlg tk fx xl xp rmn hdn few mst fal al sv hi sn ch my kp tx rd wy)]) sz) (mQi D (mTY cI cC cT) out (va_A (List.flatten [(W_M cI cC cT h0 h1 h2 h3 h4 h5 h6 h7 h8 h9 h10 hlg tk fx xl xp rmn hdn few mst fal al sv hi sn ch my kp tx rd wy)]) sz) (List.flatten [(W_M cI cC cT h0 h1 h2 h3 h4 h5 h6 h7 h8 h9 h10 hlg tk fx xl xp rmn hdn few mst fal al sv hi sn ch my kp tx rd wy)])) 0 0 (va_A (List.flatten [(W_M cI cC cT h0 h1 h2 h3 h4 h5 h6 h7 h8 h9 h10 hlg tk fx xl xp rmn hdn few mst fal al sv hi sn ch my kp tx rd wy)]) sz) := by
  refine mEnt (cc := cX6_isHere) (maxL := 3) (ret := (some .boolean)) (own := RX6) (Qq := fun A => mQi D (mTY cI cC cT) out A (List.flatten [(W_M cI cC cT h0 h1 h2 h3 h4 h5 h6 h7 h8 h9 h10 hlg tk fx xl xp rmn hdn few mst fal al sv hi sn ch my kp tx rd wy)])) (by decide) rfl rfl (Nat.le_of_ble_eq_true rfl) ?_
  intro p e s m below meth c A ls H locs hx hb hr hml hlocks hown hts hN hA hP hK hD hS hl
  have hin_X6 : ∀ w ∈ u_ws RX6 TX6 20, w ∈ wsX6_isHere := by decide +kernel
  have fl_35 := hts (.fieldLink RX6 35 "SureMendingsModel" "text" "[I") (by decide +kernel)
  have fl_116 := hts (.fieldLink RX6 116 "SureMendingsModel" "textLong" "I") (by decide +kernel)
  have fl_119 := hts (.fieldLink RX6 119 "SureMendingsModel" "spot" "I") (by decide +kernel)
  have hl : lv_has ls 3 [(0, .ref h0), (1, .int p0), (2, .int p1)] := hl
  unfold f_X6_isHere at hf
  refine lv_aload_n hx hb dX6_isHere_0 rfl (lv_at hl 0 rfl) ?_
  refine va_get (D := D) (ci := 6) (v := .int xp) (C := RX6) (T := TX6) (N := 20) hx hb hts hin_X6 hown hK hP 0 rfl rfl 12 (by decide) fl_119 (fun _ h9 => h9) rfl dX6_isHere_1 ?_
  refine lv_aload_n hx hb dX6_isHere_4 rfl (lv_at hl 0 rfl) ?_
  refine va_get (D := D) (ci := 6) (v := .int xl) (C := RX6) (T := TX6) (N := 20) hx hb hts hin_X6 hown hK hP 0 rfl rfl 11 (by decide) fl_116 (fun _ h9 => h9) rfl dX6_isHere_5 ?_
  refine lv_icmp_ge (tgt := 35) hx hb dX6_isHere_8 (by decide) (fun c_1 => ?_) (fun c_1 => ?_)
  · have hf := ite_t hf c_1
    refine lv_iconst (v := 0) hx hb dX6_isHere_35 (by decide) ?_
    cases hf
    exact mZret hx hb hr rfl hlocks hP hD hK hS dX6_isHere_36
  · have hf := ite_f hf c_1
    refine lv_aload_n hx hb dX6_isHere_11 rfl (lv_at hl 0 rfl) ?_
    refine va_get (D := D) (ci := 6) (v := .ref h8) (C := RX6) (T := TX6) (N := 20) hx hb hts hin_X6 hown hK hP 0 rfl rfl 10 (by decide) fl_35 (fun _ h9 => h9) rfl dX6_isHere_12 ?_
    refine lv_aload_n hx hb dX6_isHere_15 rfl (lv_at hl 0 rfl) ?_
    refine va_get (D := D) (ci := 6) (v := .int xp) (C := RX6) (T := TX6) (N := 20) hx hb hts hin_X6 hown hK hP 0 rfl rfl 12 (by decide) fl_119 (fun _ h9 => h9) rfl dX6_isHere_16 ?_
    obtain ⟨h_2, hf⟩ := grd hf
    refine va_iald hx hb hK hP 8 0 rfl rfl h_2 dX6_isHere_19 ?_
    refine lv_i2l hx hb dX6_isHere_20 rfl ?_
    refine lv_iload_n hx hb dX6_isHere_21 rfl (lv_at hl 1 rfl) ?_
    refine lv_i2l hx hb dX6_isHere_22 rfl ?_
    refine lv_iload_n hx hb dX6_isHere_23 rfl (lv_at hl 2 rfl) ?_
    refine lv_i2l hx hb dX6_isHere_24 rfl ?_
    obtain ⟨r_3, q_4, hf⟩ := bnd hf
    refine mGoiS (segs := [(W_M cI cC cT h0 h1 h2 h3 h4 h5 h6 h7 h8 h9 h10 hlg tk fx xl xp rmn hdn few mst fal al sv hi sn ch my kp tx rd wy)]) (wcs := []) (w1s := []) (w2s := [(W_M cI cC cT h0 h1 h2 h3 h4 h5 h6 h7 h8 h9 h10 hlg tk fx xl xp rmn hdn few mst fal al sv hi sn ch my kp tx rd wy)]) rfl rfl (va_runS (As := [.long (Int32.toInt64 (tx xp.toNatClampNeg)), .long (Int32.toInt64 p0), .long (Int32.toInt64 p1)]) (rest := []) ⟨hx, hb, hml, hown, hts⟩ (c_X6_in l D cI cC cT H.size (Int32.toInt64 (tx xp.toNatClampNeg)) (Int32.toInt64 p0) (Int32.toInt64 p1) r_3 q_4) (va_cwS 3 hts gX6_isHere_X6_in rfl rfl rfl (by decide +kernel) ⟨Nat.le_of_ble_eq_true rfl, Nat.le_of_ble_eq_true rfl⟩) (mPreSS [] rfl hP hD hK hN [] rfl (by decide)) rfl rfl hl.1 rfl (lv_room (Nat.le_of_ble_eq_true rfl)) dX6_isHere_25 ⟨Nat.zero_le _, Nat.zero_le _⟩) hP hD hS hA [] rfl rfl rfl rfl (fun H locs hP hD hS => ?_)
    refine lv_if_eq (tgt := 35) hx hb dX6_isHere_28 (by decide) (fun c_5 => ?_) (fun c_5 => ?_)
    · have hf := ite_t hf c_5
      refine lv_iconst (v := 0) hx hb dX6_isHere_35 (by decide) ?_
      cases hf
      exact mZret hx hb hr rfl hlocks hP hD hK hS dX6_isHere_36
    · have hf := ite_f hf c_5
      refine lv_iconst (v := 1) hx hb dX6_isHere_31 (by decide) ?_
      refine lv_goto (tgt := 36) hx hb dX6_isHere_32 (by decide) ?_
      cases hf
      exact mZret hx hb hr rfl hlocks hP hD hK hS dX6_isHere_36
abbrev rm_X6_reads : Room := { frames := 2, cells := 0, slots := 0, locals := 47 }
set_option maxHeartbeats 4000000 in
set_option maxRecDepth 100000 in
theorem c_X6_reads (l : Launch) (D : va_G) (cI cC cT : ClassId) (h0 h1 h2 h3 h4 h5 h6 h7 h8 h9 h10 : Nat) (hlg : Int32) (tk : Int32) (fx : Int32) (xl : Int32) (xp : Int32) (rmn : Int32) (hdn : Int32) (few : Int32) (mst : Int32) (fal : Int32) (al : Nat → Int32) (sv : Nat → Int32) (hi : Nat → Int32) (sn : Nat → Int32) (ch : Nat → Int32) (my : Nat → Int32) (kp : Nat → Int32) (tx : Nat → Int32) (rd : Nat → Int32) (wy : Nat → Int32) (sz : Nat) (p0 : Int32) (p1 : Int32) (p2 : Int32) (out : Int32) (o_xp : Int32) (o_rd : Nat → Int32) (hf : f_X6_reads xl xp rmn tx rd p0 p1 p2 = some ((out, o_xp, o_rd))) : Met l yX6_reads wsX6_reads rm_X6_reads (mP D (mTY cI cC cT) [.ref h0, .int p0, .int p1, .int p2] (List.flatten [(W_M cI cC cT h0 h1 h2 h3 h4 h5 h6 h7 h8 h9 h10 hlg tk fx xl xp rmn hdn few mst fal al sv hi sn ch my kp tx rd wy)]) sz) (mQi D (mTY cI cC cT) out (va_A (List.flatten [(W_M cI cC cT h0 h1 h2 h3 h4 h5 h6 h7 h8 h9 h10 hlg tk fx xl xp rmn hdn few mst fal al sv hi sn ch my kp tx rd wy)]) sz) (List.flatten [(W_M cI cC cT h0 h1 h2 h3 h4 h5 h6 h7 h8 h9 h10 hlg tk fx xl o_xp rmn hdn few mst fal al sv hi sn ch my kp tx o_rd wy)])) 0 0 (va_A (List.flatten [(W_M cI cC cT h0 h1 h2 h3 h4 h5 h6 h7 h8 h9 h10 hlg tk fx xl xp rmn hdn few mst fal al sv hi sn ch my kp tx rd wy)]) sz) := by
  refine mEnt (cc := cX6_reads) (maxL := 4) (ret := (some .boolean)) (own := RX6) (Qq := fun A => mQi D (mTY cI cC cT) out A (List.flatten [(W_M cI cC cT h0 h1 h2 h3 h4 h5 h6 h7 h8 h9 h10 hlg tk fx xl o_xp rmn hdn few mst fal al sv hi sn ch my kp tx o_rd wy)])) (by decide) rfl rfl (Nat.le_of_ble_eq_true rfl) ?_
  intro p e s m below meth c A ls H locs hx hb hr hml hlocks hown hts hN hA hP hK hD hS hl
  have hin_X6 : ∀ w ∈ u_ws RX6 TX6 20, w ∈ wsX6_reads := by decide +kernel
  have fl_35 := hts (.fieldLink RX6 35 "SureMendingsModel" "text" "[I") (by decide +kernel)
  have fl_38 := hts (.fieldLink RX6 38 "SureMendingsModel" "read" "[I") (by decide +kernel)
  have fl_119 := hts (.fieldLink RX6 119 "SureMendingsModel" "spot" "I") (by decide +kernel)
  have fl_126 := hts (.fieldLink RX6 126 "SureMendingsModel" "readMany" "I") (by decide +kernel)
  have hl : lv_has ls 4 [(0, .ref h0), (1, .int p0), (2, .int p1), (3, .int p2)] := hl
  unfold f_X6_reads at hf
  refine lv_aload_n hx hb dX6_reads_0 rfl (lv_at hl 0 rfl) ?_
  refine lv_iload_n hx hb dX6_reads_1 rfl (lv_at hl 1 rfl) ?_
  refine lv_iload_n hx hb dX6_reads_2 rfl (lv_at hl 2 rfl) ?_
  obtain ⟨r_1, q_2, hf⟩ := bnd hf
  refine mGoiS (segs := [(W_M cI cC cT h0 h1 h2 h3 h4 h5 h6 h7 h8 h9 h10 hlg tk fx xl xp rmn hdn few mst fal al sv hi sn ch my kp tx rd wy)]) (wcs := [(W_M cI cC cT h0 h1 h2 h3 h4 h5 h6 h7 h8 h9 h10 hlg tk fx xl xp rmn hdn few mst fal al sv hi sn ch my kp tx rd wy)]) (w1s := [(W_M cI cC cT h0 h1 h2 h3 h4 h5 h6 h7 h8 h9 h10 hlg tk fx xl xp rmn hdn few mst fal al sv hi sn ch my kp tx rd wy)]) (w2s := [(W_M cI cC cT h0 h1 h2 h3 h4 h5 h6 h7 h8 h9 h10 hlg tk fx xl xp rmn hdn few mst fal al sv hi sn ch my kp tx rd wy)]) rfl rfl (va_runV (As := [.int p0, .int p1]) (rest := []) ⟨hx, hb, hml, hown, hts⟩ (c_X6_isHere l D cI cC cT h0 h1 h2 h3 h4 h5 h6 h7 h8 h9 h10 hlg tk fx xl xp rmn hdn few mst fal al sv hi sn ch my kp tx rd wy H.size p0 p1 r_1 q_2) (cwV 2 hts gX6_reads_X6_isHere rfl rfl rfl (by decide +kernel) ⟨Nat.le_of_ble_eq_true rfl, Nat.le_of_ble_eq_true rfl⟩) (mPreVS [(W_M cI cC cT h0 h1 h2 h3 h4 h5 h6 h7 h8 h9 h10 hlg tk fx xl xp rmn hdn few mst fal al sv hi sn ch my kp tx rd wy)] rfl hP hD hK hN [0] rfl (by decide) (va_recv hK (sP hP 0 rfl) (ci := 6) (q0 := 0) rfl rfl)) rfl rfl hl.1 rfl (lv_room (Nat.le_of_ble_eq_true rfl)) dX6_reads_3 ⟨Nat.zero_le _, Nat.zero_le _⟩) hP hD hS hA [0] rfl rfl rfl rfl (fun H locs hP hD hS => ?_)
  refine lv_if_ne (tgt := 11) hx hb dX6_reads_6 (by decide) (fun c_3 => ?_) (fun c_3 => ?_)
  · have hf := ite_f hf c_3
    refine lv_aload_n hx hb dX6_reads_11 rfl (lv_at hl 0 rfl) ?_
    refine va_get (D := D) (ci := 6) (v := .ref h9) (C := RX6) (T := TX6) (N := 20) hx hb hts hin_X6 hown hK hP 0 rfl rfl 13 (by decide) fl_38 (fun _ h9 => h9) rfl dX6_reads_12 ?_
    refine lv_iconst (v := 4) hx hb dX6_reads_15 (by decide) ?_
    refine lv_aload_n hx hb dX6_reads_16 rfl (lv_at hl 0 rfl) ?_
    refine va_get (D := D) (ci := 6) (v := .int rmn) (C := RX6) (T := TX6) (N := 20) hx hb hts hin_X6 hown hK hP 0 rfl rfl 14 (by decide) fl_126 (fun _ h9 => h9) rfl dX6_reads_17 ?_
    refine lv_imul hx hb dX6_reads_20 ?_
    refine lv_iload_n hx hb dX6_reads_21 rfl (lv_at hl 3 rfl) ?_
    refine lv_iadd hx hb dX6_reads_22 ?_
    refine lv_aload_n hx hb dX6_reads_23 rfl (lv_at hl 0 rfl) ?_
    refine va_get (D := D) (ci := 6) (v := .ref h8) (C := RX6) (T := TX6) (N := 20) hx hb hts hin_X6 hown hK hP 0 rfl rfl 10 (by decide) fl_35 (fun _ h9 => h9) rfl dX6_reads_24 ?_
    refine lv_aload_n hx hb dX6_reads_27 rfl (lv_at hl 0 rfl) ?_
    refine va_get (D := D) (ci := 6) (v := .int xp) (C := RX6) (T := TX6) (N := 20) hx hb hts hin_X6 hown hK hP 0 rfl rfl 12 (by decide) fl_119 (fun _ h9 => h9) rfl dX6_reads_28 ?_
    obtain ⟨h_4, hf⟩ := grd hf
    refine va_iald hx hb hK hP 8 0 rfl rfl h_4 dX6_reads_31 ?_
    refine lv_iload_n hx hb dX6_reads_32 rfl (lv_at hl 1 rfl) ?_
    refine lv_isub hx hb dX6_reads_33 ?_
    obtain ⟨h_5, hf⟩ := grd hf
    refine va_iast hx hb hK hP hD hS 9 0 rfl rfl h_5 dX6_reads_34 (fun H locs hP hD hS => ?_)
    have hP : va_P D vwCl (List.flatten [(W_M cI cC cT h0 h1 h2 h3 h4 h5 h6 h7 h8 h9 h10 hlg tk fx xl xp rmn hdn few mst fal al sv hi sn ch my kp tx (upd rd ((4 * rmn) + p2).toNatClampNeg ((tx xp.toNatClampNeg) - p0)) wy)]) H := hP
    have hD : va_D A (List.flatten [(W_M cI cC cT h0 h1 h2 h3 h4 h5 h6 h7 h8 h9 h10 hlg tk fx xl xp rmn hdn few mst fal al sv hi sn ch my kp tx (upd rd ((4 * rmn) + p2).toNatClampNeg ((tx xp.toNatClampNeg) - p0)) wy)]) := hD
    refine lv_aload_n hx hb dX6_reads_35 rfl (lv_at hl 0 rfl) ?_
    refine lv_dup hx hb dX6_reads_36 rfl ?_
    refine va_get (D := D) (ci := 6) (v := .int xp) (C := RX6) (T := TX6) (N := 20) hx hb hts hin_X6 hown hK hP 0 rfl rfl 12 (by decide) fl_119 (fun _ h9 => h9) rfl dX6_reads_37 ?_
    refine lv_iconst (v := 1) hx hb dX6_reads_40 (by decide) ?_
    refine lv_iadd hx hb dX6_reads_41 ?_
    refine va_put (D := D) (ci := 6) (v := .int (xp + 1)) (ty := .int) (C := RX6) (T := TX6) (N := 20) hx hb hts hin_X6 tyX6 tyX6_ok nmX6 hown hK hP hD hS 0 rfl rfl 12 (by decide) fl_119 (fun _ h9 => h9) rfl (by decide +kernel) rfl rfl (Nat.le_of_ble_eq_true rfl) dX6_reads_42 (fun H locs hP hD hS => ?_)
    have hP : va_P D vwCl (List.flatten [(W_M cI cC cT h0 h1 h2 h3 h4 h5 h6 h7 h8 h9 h10 hlg tk fx xl (xp + 1) rmn hdn few mst fal al sv hi sn ch my kp tx (upd rd ((4 * rmn) + p2).toNatClampNeg ((tx xp.toNatClampNeg) - p0)) wy)]) H := hP
    have hD : va_D A (List.flatten [(W_M cI cC cT h0 h1 h2 h3 h4 h5 h6 h7 h8 h9 h10 hlg tk fx xl (xp + 1) rmn hdn few mst fal al sv hi sn ch my kp tx (upd rd ((4 * rmn) + p2).toNatClampNeg ((tx xp.toNatClampNeg) - p0)) wy)]) := hD
    refine lv_iconst (v := 1) hx hb dX6_reads_45 (by decide) ?_
    cases hf
    exact mZret hx hb hr rfl hlocks hP hD hK hS dX6_reads_46
  · have hf := ite_t hf c_3
    refine lv_iconst (v := 0) hx hb dX6_reads_9 (by decide) ?_
    cases hf
    exact mZret hx hb hr rfl hlocks hP hD hK hS dX6_reads_10
abbrev rm_X6_takesSign : Room := { frames := 2, cells := 0, slots := 0, locals := 47 }
set_option maxHeartbeats 4000000 in
set_option maxRecDepth 100000 in
theorem c_X6_takesSign (l : Launch) (D : va_G) (cI cC cT : ClassId) (h0 h1 h2 h3 h4 h5 h6 h7 h8 h9 h10 : Nat) (hlg : Int32) (tk : Int32) (fx : Int32) (xl : Int32) (xp : Int32) (rmn : Int32) (hdn : Int32) (few : Int32) (mst : Int32) (fal : Int32) (al : Nat → Int32) (sv : Nat → Int32) (hi : Nat → Int32) (sn : Nat → Int32) (ch : Nat → Int32) (my : Nat → Int32) (kp : Nat → Int32) (tx : Nat → Int32) (rd : Nat → Int32) (wy : Nat → Int32) (sz : Nat) (p0 : Int32) (out : Int32) (o_xp : Int32) (hf : f_X6_takesSign xl xp tx p0 = some ((out, o_xp))) : Met l yX6_takesSign wsX6_takesSign rm_X6_takesSign (mP D (mTY cI cC cT) [.ref h0, .int p0] (List.flatten [(W_M cI cC cT h0 h1 h2 h3 h4 h5 h6 h7 h8 h9 h10 hlg tk fx xl xp rmn hdn few mst fal al sv hi sn ch my kp tx rd wy)]) sz) (mQi D (mTY cI cC cT) out (va_A (List.flatten [(W_M cI cC cT h0 h1 h2 h3 h4 h5 h6 h7 h8 h9 h10 hlg tk fx xl xp rmn hdn few mst fal al sv hi sn ch my kp tx rd wy)]) sz) (List.flatten [(W_M cI cC cT h0 h1 h2 h3 h4 h5 h6 h7 h8 h9 h10 hlg tk fx xl o_xp rmn hdn few mst fal al sv hi sn ch my kp tx rd wy)])) 0 0 (va_A (List.flatten [(W_M cI cC cT h0 h1 h2 h3 h4 h5 h6 h7 h8 h9 h10 hlg tk fx xl xp rmn hdn few mst fal al sv hi sn ch my kp tx rd wy)]) sz) := by
  refine mEnt (cc := cX6_takesSign) (maxL := 3) (ret := (some .boolean)) (own := RX6) (Qq := fun A => mQi D (mTY cI cC cT) out A (List.flatten [(W_M cI cC cT h0 h1 h2 h3 h4 h5 h6 h7 h8 h9 h10 hlg tk fx xl o_xp rmn hdn few mst fal al sv hi sn ch my kp tx rd wy)])) (by decide) rfl rfl (Nat.le_of_ble_eq_true rfl) ?_
  intro p e s m below meth c A ls H locs hx hb hr hml hlocks hown hts hN hA hP hK hD hS hl
  have hin_X6 : ∀ w ∈ u_ws RX6 TX6 20, w ∈ wsX6_takesSign := by decide +kernel
  have fl_119 := hts (.fieldLink RX6 119 "SureMendingsModel" "spot" "I") (by decide +kernel)
  have hl : lv_has ls 3 [(0, .ref h0), (1, .int p0)] := hl
  unfold f_X6_takesSign at hf
  refine lv_aload_n hx hb dX6_takesSign_0 rfl (lv_at hl 0 rfl) ?_
  refine lv_iload_n hx hb dX6_takesSign_1 rfl (lv_at hl 1 rfl) ?_
  refine lv_iload_n hx hb dX6_takesSign_2 rfl (lv_at hl 1 rfl) ?_
  obtain ⟨r_1, q_2, hf⟩ := bnd hf
  refine mGoiS (segs := [(W_M cI cC cT h0 h1 h2 h3 h4 h5 h6 h7 h8 h9 h10 hlg tk fx xl xp rmn hdn few mst fal al sv hi sn ch my kp tx rd wy)]) (wcs := [(W_M cI cC cT h0 h1 h2 h3 h4 h5 h6 h7 h8 h9 h10 hlg tk fx xl xp rmn hdn few mst fal al sv hi sn ch my kp tx rd wy)]) (w1s := [(W_M cI cC cT h0 h1 h2 h3 h4 h5 h6 h7 h8 h9 h10 hlg tk fx xl xp rmn hdn few mst fal al sv hi sn ch my kp tx rd wy)]) (w2s := [(W_M cI cC cT h0 h1 h2 h3 h4 h5 h6 h7 h8 h9 h10 hlg tk fx xl xp rmn hdn few mst fal al sv hi sn ch my kp tx rd wy)]) rfl rfl (va_runV (As := [.int p0, .int p0]) (rest := []) ⟨hx, hb, hml, hown, hts⟩ (c_X6_isHere l D cI cC cT h0 h1 h2 h3 h4 h5 h6 h7 h8 h9 h10 hlg tk fx xl xp rmn hdn few mst fal al sv hi sn ch my kp tx rd wy H.size p0 p0 r_1 q_2) (cwV 2 hts gX6_takesSign_X6_isHere rfl rfl rfl (by decide +kernel) ⟨Nat.le_of_ble_eq_true rfl, Nat.le_of_ble_eq_true rfl⟩) (mPreVS [(W_M cI cC cT h0 h1 h2 h3 h4 h5 h6 h7 h8 h9 h10 hlg tk fx xl xp rmn hdn few mst fal al sv hi sn ch my kp tx rd wy)] rfl hP hD hK hN [0] rfl (by decide) (va_recv hK (sP hP 0 rfl) (ci := 6) (q0 := 0) rfl rfl)) rfl rfl hl.1 rfl (lv_room (Nat.le_of_ble_eq_true rfl)) dX6_takesSign_3 ⟨Nat.zero_le _, Nat.zero_le _⟩) hP hD hS hA [0] rfl rfl rfl rfl (fun H locs hP hD hS => ?_)
  refine lv_istore_n (lv' := [(2, .int r_1), (0, .ref h0), (1, .int p0)]) hx hb dX6_takesSign_6 rfl hl (by decide) rfl (fun ls hl => ?_)
  refine lv_aload_n hx hb dX6_takesSign_7 rfl (lv_at hl 1 rfl) ?_
  refine lv_dup hx hb dX6_takesSign_8 rfl ?_
  refine va_get (D := D) (ci := 6) (v := .int xp) (C := RX6) (T := TX6) (N := 20) hx hb hts hin_X6 hown hK hP 0 rfl rfl 12 (by decide) fl_119 (fun _ h9 => h9) rfl dX6_takesSign_9 ?_
  refine lv_iload_n hx hb dX6_takesSign_12 rfl (lv_at hl 0 rfl) ?_
  obtain ⟨x_3, q_5, hf⟩ := bnd hf
  have K_4 : ∀ (H : Heap) (locs : List Loc), va_P D vwCl (List.flatten [(W_M cI cC cT h0 h1 h2 h3 h4 h5 h6 h7 h8 h9 h10 hlg tk fx xl xp rmn hdn few mst fal al sv hi sn ch my kp tx rd wy)]) H → va_D A (List.flatten [(W_M cI cC cT h0 h1 h2 h3 h4 h5 h6 h7 h8 h9 h10 hlg tk fx xl xp rmn hdn few mst fal al sv hi sn ch my kp tx rd wy)]) → va_S A s.heap H locs → ∀ (ls : Array Slot), lv_has ls 3 [(2, .int r_1)] → W p l e rm_X6_takesSign s m ([.ref h0, .int p0] : List Value).toArray below meth c H locs 0 0 (MQ below (mQi D (mTY cI cC cT) out A (List.flatten [(W_M cI cC cT h0 h1 h2 h3 h4 h5 h6 h7 h8 h9 h10 hlg tk fx xl o_xp rmn hdn few mst fal al sv hi sn ch my kp tx rd wy)])) ([.ref h0, .int p0] : List Value).toArray s 0 0 A) (F0 m 21 ls [.int x_3, .int xp, .ref h0]) := by
    intro H locs hP hD hS ls hl
    refine lv_iadd hx hb dX6_takesSign_21 ?_
    refine va_put (D := D) (ci := 6) (v := .int (xp + x_3)) (ty := .int) (C := RX6) (T := TX6) (N := 20) hx hb hts hin_X6 tyX6 tyX6_ok nmX6 hown hK hP hD hS 0 rfl rfl 12 (by decide) fl_119 (fun _ h9 => h9) rfl (by decide +kernel) rfl rfl (Nat.le_of_ble_eq_true rfl) dX6_takesSign_22 (fun H locs hP hD hS => ?_)
    have hP : va_P D vwCl (List.flatten [(W_M cI cC cT h0 h1 h2 h3 h4 h5 h6 h7 h8 h9 h10 hlg tk fx xl (xp + x_3) rmn hdn few mst fal al sv hi sn ch my kp tx rd wy)]) H := hP
    have hD : va_D A (List.flatten [(W_M cI cC cT h0 h1 h2 h3 h4 h5 h6 h7 h8 h9 h10 hlg tk fx xl (xp + x_3) rmn hdn few mst fal al sv hi sn ch my kp tx rd wy)]) := hD
    refine lv_iload_n hx hb dX6_takesSign_25 rfl (lv_at hl 0 rfl) ?_
    obtain ⟨h_7, hf⟩ := grd hf
    cases hf
    exact mZret hx hb hr (isB_narrow h_7) hlocks hP hD hK hS dX6_takesSign_26
  have hf := q_5
  refine lv_if_eq (tgt := 20) hx hb dX6_takesSign_13 (by decide) (fun c_6 => ?_) (fun c_6 => ?_)
  · have hf := ite_t hf c_6
    refine lv_iconst (v := 0) hx hb dX6_takesSign_20 (by decide) ?_
    cases hf
    exact K_4 _ _ hP hD hS _ (lv_sub hl [0] rfl)
  · have hf := ite_f hf c_6
    refine lv_iconst (v := 1) hx hb dX6_takesSign_16 (by decide) ?_
    refine lv_goto (tgt := 21) hx hb dX6_takesSign_17 (by decide) ?_
    cases hf
    exact K_4 _ _ hP hD hS _ (lv_sub hl [0] rfl)
abbrev rm_X6_readsRow : Room := { frames := 3, cells := 0, slots := 0, locals := 70 }
set_option maxHeartbeats 4000000 in
set_option maxRecDepth 100000 in
theorem c_X6_readsRow (l : Launch) (D : va_G) (cI cC cT : ClassId) (h0 h1 h2 h3 h4 h5 h6 h7 h8 h9 h10 : Nat) (hlg : Int32) (tk : Int32) (fx : Int32) (xl : Int32) (xp : Int32) (rmn : Int32) (hdn : Int32) (few : Int32) (mst : Int32) (fal : Int32) (al : Nat → Int32) (sv : Nat → Int32) (hi : Nat → Int32) (sn : Nat → Int32) (ch : Nat → Int32) (my : Nat → Int32) (kp : Nat → Int32) (tx : Nat → Int32) (rd : Nat → Int32) (wy : Nat → Int32) (sz : Nat) (out : Int32) (o_xp : Int32) (o_rmn : Int32) (o_rd : Nat → Int32) (hf : f_X6_readsRow xl xp rmn tx rd = some ((out, o_xp, o_rmn, o_rd))) : Met l yX6_readsRow wsX6_readsRow rm_X6_readsRow (mP D (mTY cI cC cT) [.ref h0] (List.flatten [(W_M cI cC cT h0 h1 h2 h3 h4 h5 h6 h7 h8 h9 h10 hlg tk fx xl xp rmn hdn few mst fal al sv hi sn ch my kp tx rd wy)]) sz) (mQi D (mTY cI cC cT) out (va_A (List.flatten [(W_M cI cC cT h0 h1 h2 h3 h4 h5 h6 h7 h8 h9 h10 hlg tk fx xl xp rmn hdn few mst fal al sv hi sn ch my kp tx rd wy)]) sz) (List.flatten [(W_M cI cC cT h0 h1 h2 h3 h4 h5 h6 h7 h8 h9 h10 hlg tk fx xl o_xp o_rmn hdn few mst fal al sv hi sn ch my kp tx o_rd wy)])) 0 0 (va_A (List.flatten [(W_M cI cC cT h0 h1 h2 h3 h4 h5 h6 h7 h8 h9 h10 hlg tk fx xl xp rmn hdn few mst fal al sv hi sn ch my kp tx rd wy)]) sz) := by
  refine mEnt (cc := cX6_readsRow) (maxL := 2) (ret := (some .boolean)) (own := RX6) (Qq := fun A => mQi D (mTY cI cC cT) out A (List.flatten [(W_M cI cC cT h0 h1 h2 h3 h4 h5 h6 h7 h8 h9 h10 hlg tk fx xl o_xp o_rmn hdn few mst fal al sv hi sn ch my kp tx o_rd wy)])) (by decide) rfl rfl (Nat.le_of_ble_eq_true rfl) ?_
  intro p e s m below meth c A ls H locs hx hb hr hml hlocks hown hts hN hA hP hK hD hS hl
  have hin_X6 : ∀ w ∈ u_ws RX6 TX6 20, w ∈ wsX6_readsRow := by decide +kernel
  have fl_35 := hts (.fieldLink RX6 35 "SureMendingsModel" "text" "[I") (by decide +kernel)
  have fl_38 := hts (.fieldLink RX6 38 "SureMendingsModel" "read" "[I") (by decide +kernel)
  have fl_119 := hts (.fieldLink RX6 119 "SureMendingsModel" "spot" "I") (by decide +kernel)
  have fl_126 := hts (.fieldLink RX6 126 "SureMendingsModel" "readMany" "I") (by decide +kernel)
  have hl : lv_has ls 2 [(0, .ref h0)] := hl
  unfold f_X6_readsRow at hf
  refine lv_aload_n hx hb dX6_readsRow_0 rfl (lv_at hl 0 rfl) ?_
  refine lv_bipush (v := 48) hx hb dX6_readsRow_1 (by decide) ?_
  refine lv_bipush (v := 57) hx hb dX6_readsRow_3 (by decide) ?_
  refine lv_iconst (v := 0) hx hb dX6_readsRow_5 (by decide) ?_
  obtain ⟨⟨r_1, xp_2, rd_3⟩, q_4, hf⟩ := bnd hf
  refine mGoiS (segs := [(W_M cI cC cT h0 h1 h2 h3 h4 h5 h6 h7 h8 h9 h10 hlg tk fx xl xp rmn hdn few mst fal al sv hi sn ch my kp tx rd wy)]) (wcs := [(W_M cI cC cT h0 h1 h2 h3 h4 h5 h6 h7 h8 h9 h10 hlg tk fx xl xp rmn hdn few mst fal al sv hi sn ch my kp tx rd wy)]) (w1s := [(W_M cI cC cT h0 h1 h2 h3 h4 h5 h6 h7 h8 h9 h10 hlg tk fx xl xp_2 rmn hdn few mst fal al sv hi sn ch my kp tx rd_3 wy)]) (w2s := [(W_M cI cC cT h0 h1 h2 h3 h4 h5 h6 h7 h8 h9 h10 hlg tk fx xl xp_2 rmn hdn few mst fal al sv hi sn ch my kp tx rd_3 wy)]) rfl rfl (va_runV (As := [.int 48, .int 57, .int 0]) (rest := []) ⟨hx, hb, hml, hown, hts⟩ (c_X6_reads l D cI cC cT h0 h1 h2 h3 h4 h5 h6 h7 h8 h9 h10 hlg tk fx xl xp rmn hdn few mst fal al sv hi sn ch my kp tx rd wy H.size 48 57 0 r_1 xp_2 rd_3 q_4) (cwV 3 hts gX6_readsRow_X6_reads rfl rfl rfl (by decide +kernel) ⟨Nat.le_of_ble_eq_true rfl, Nat.le_of_ble_eq_true rfl⟩) (mPreVS [(W_M cI cC cT h0 h1 h2 h3 h4 h5 h6 h7 h8 h9 h10 hlg tk fx xl xp rmn hdn few mst fal al sv hi sn ch my kp tx rd wy)] rfl hP hD hK hN [0] rfl (by decide) (va_recv hK (sP hP 0 rfl) (ci := 6) (q0 := 0) rfl rfl)) rfl rfl hl.1 rfl (lv_room (Nat.le_of_ble_eq_true rfl)) dX6_readsRow_6 ⟨Nat.zero_le _, Nat.zero_le _⟩) hP hD hS hA [0] rfl rfl rfl rfl (fun H locs hP hD hS => ?_)
  refine lv_if_eq (tgt := 33) hx hb dX6_readsRow_9 (by decide) (fun c_5 => ?_) (fun c_5 => ?_)
  · have hf := ite_t hf c_5
    refine lv_iconst (v := 0) hx hb dX6_readsRow_33 (by decide) ?_
    cases hf
    exact mZret hx hb hr rfl hlocks hP hD hK hS dX6_readsRow_34
  · have hf := ite_f hf c_5
    refine lv_aload_n hx hb dX6_readsRow_12 rfl (lv_at hl 0 rfl) ?_
    refine lv_bipush (v := 61) hx hb dX6_readsRow_13 (by decide) ?_
    obtain ⟨⟨r_6, xp_7⟩, q_8, hf⟩ := bnd hf
    refine mGoiS (segs := [(W_M cI cC cT h0 h1 h2 h3 h4 h5 h6 h7 h8 h9 h10 hlg tk fx xl xp_2 rmn hdn few mst fal al sv hi sn ch my kp tx rd_3 wy)]) (wcs := [(W_M cI cC cT h0 h1 h2 h3 h4 h5 h6 h7 h8 h9 h10 hlg tk fx xl xp_2 rmn hdn few mst fal al sv hi sn ch my kp tx rd_3 wy)]) (w1s := [(W_M cI cC cT h0 h1 h2 h3 h4 h5 h6 h7 h8 h9 h10 hlg tk fx xl xp_7 rmn hdn few mst fal al sv hi sn ch my kp tx rd_3 wy)]) (w2s := [(W_M cI cC cT h0 h1 h2 h3 h4 h5 h6 h7 h8 h9 h10 hlg tk fx xl xp_7 rmn hdn few mst fal al sv hi sn ch my kp tx rd_3 wy)]) rfl rfl (va_runV (As := [.int 61]) (rest := []) ⟨hx, hb, hml, hown, hts⟩ (c_X6_takesSign l D cI cC cT h0 h1 h2 h3 h4 h5 h6 h7 h8 h9 h10 hlg tk fx xl xp_2 rmn hdn few mst fal al sv hi sn ch my kp tx rd_3 wy H.size 61 r_6 xp_7 q_8) (cwV 1 hts gX6_readsRow_X6_takesSign rfl rfl rfl (by decide +kernel) ⟨Nat.le_of_ble_eq_true rfl, Nat.le_of_ble_eq_true rfl⟩) (mPreVS [(W_M cI cC cT h0 h1 h2 h3 h4 h5 h6 h7 h8 h9 h10 hlg tk fx xl xp_2 rmn hdn few mst fal al sv hi sn ch my kp tx rd_3 wy)] rfl hP hD hK hN [0] rfl (by decide) (va_recv hK (sP hP 0 rfl) (ci := 6) (q0 := 0) rfl rfl)) rfl rfl hl.1 rfl (lv_room (Nat.le_of_ble_eq_true rfl)) dX6_readsRow_15 ⟨Nat.zero_le _, Nat.zero_le _⟩) hP hD hS hA [0] rfl rfl rfl rfl (fun H locs hP hD hS => ?_)
    refine lv_if_eq (tgt := 33) hx hb dX6_readsRow_18 (by decide) (fun c_9 => ?_) (fun c_9 => ?_)
    · have hf := ite_t hf c_9
      refine lv_iconst (v := 0) hx hb dX6_readsRow_33 (by decide) ?_
      cases hf
      exact mZret hx hb hr rfl hlocks hP hD hK hS dX6_readsRow_34
    · have hf := ite_f hf c_9
      refine lv_aload_n hx hb dX6_readsRow_21 rfl (lv_at hl 0 rfl) ?_
      refine lv_bipush (v := 97) hx hb dX6_readsRow_22 (by decide) ?_
      refine lv_bipush (v := 104) hx hb dX6_readsRow_24 (by decide) ?_
      refine lv_iconst (v := 1) hx hb dX6_readsRow_26 (by decide) ?_
      obtain ⟨⟨r_10, xp_11, rd_12⟩, q_13, hf⟩ := bnd hf
      refine mGoiS (segs := [(W_M cI cC cT h0 h1 h2 h3 h4 h5 h6 h7 h8 h9 h10 hlg tk fx xl xp_7 rmn hdn few mst fal al sv hi sn ch my kp tx rd_3 wy)]) (wcs := [(W_M cI cC cT h0 h1 h2 h3 h4 h5 h6 h7 h8 h9 h10 hlg tk fx xl xp_7 rmn hdn few mst fal al sv hi sn ch my kp tx rd_3 wy)]) (w1s := [(W_M cI cC cT h0 h1 h2 h3 h4 h5 h6 h7 h8 h9 h10 hlg tk fx xl xp_11 rmn hdn few mst fal al sv hi sn ch my kp tx rd_12 wy)]) (w2s := [(W_M cI cC cT h0 h1 h2 h3 h4 h5 h6 h7 h8 h9 h10 hlg tk fx xl xp_11 rmn hdn few mst fal al sv hi sn ch my kp tx rd_12 wy)]) rfl rfl (va_runV (As := [.int 97, .int 104, .int 1]) (rest := []) ⟨hx, hb, hml, hown, hts⟩ (c_X6_reads l D cI cC cT h0 h1 h2 h3 h4 h5 h6 h7 h8 h9 h10 hlg tk fx xl xp_7 rmn hdn few mst fal al sv hi sn ch my kp tx rd_3 wy H.size 97 104 1 r_10 xp_11 rd_12 q_13) (cwV 3 hts gX6_readsRow_X6_reads rfl rfl rfl (by decide +kernel) ⟨Nat.le_of_ble_eq_true rfl, Nat.le_of_ble_eq_true rfl⟩) (mPreVS [(W_M cI cC cT h0 h1 h2 h3 h4 h5 h6 h7 h8 h9 h10 hlg tk fx xl xp_7 rmn hdn few mst fal al sv hi sn ch my kp tx rd_3 wy)] rfl hP hD hK hN [0] rfl (by decide) (va_recv hK (sP hP 0 rfl) (ci := 6) (q0 := 0) rfl rfl)) rfl rfl hl.1 rfl (lv_room (Nat.le_of_ble_eq_true rfl)) dX6_readsRow_27 ⟨Nat.zero_le _, Nat.zero_le _⟩) hP hD hS hA [0] rfl rfl rfl rfl (fun H locs hP hD hS => ?_)
      refine lv_if_ne (tgt := 35) hx hb dX6_readsRow_30 (by decide) (fun c_14 => ?_) (fun c_14 => ?_)
      · have hf := ite_f hf c_14
        refine lv_iconst (v := 0) hx hb dX6_readsRow_35 (by decide) ?_
        refine lv_istore_n (lv' := [(1, .int 0), (0, .ref h0)]) hx hb dX6_readsRow_36 rfl hl (by decide) rfl (fun ls hl => ?_)
        refine lv_aload_n hx hb dX6_readsRow_37 rfl (lv_at hl 1 rfl) ?_
        refine lv_bipush (v := 49) hx hb dX6_readsRow_38 (by decide) ?_
        refine lv_bipush (v := 57) hx hb dX6_readsRow_40 (by decide) ?_
        obtain ⟨r_15, q_16, hf⟩ := bnd hf
        refine mGoiS (segs := [(W_M cI cC cT h0 h1 h2 h3 h4 h5 h6 h7 h8 h9 h10 hlg tk fx xl xp_11 rmn hdn few mst fal al sv hi sn ch my kp tx rd_12 wy)]) (wcs := [(W_M cI cC cT h0 h1 h2 h3 h4 h5 h6 h7 h8 h9 h10 hlg tk fx xl xp_11 rmn hdn few mst fal al sv hi sn ch my kp tx rd_12 wy)]) (w1s := [(W_M cI cC cT h0 h1 h2 h3 h4 h5 h6 h7 h8 h9 h10 hlg tk fx xl xp_11 rmn hdn few mst fal al sv hi sn ch my kp tx rd_12 wy)]) (w2s := [(W_M cI cC cT h0 h1 h2 h3 h4 h5 h6 h7 h8 h9 h10 hlg tk fx xl xp_11 rmn hdn few mst fal al sv hi sn ch my kp tx rd_12 wy)]) rfl rfl (va_runV (As := [.int 49, .int 57]) (rest := []) ⟨hx, hb, hml, hown, hts⟩ (c_X6_isHere l D cI cC cT h0 h1 h2 h3 h4 h5 h6 h7 h8 h9 h10 hlg tk fx xl xp_11 rmn hdn few mst fal al sv hi sn ch my kp tx rd_12 wy H.size 49 57 r_15 q_16) (cwV 2 hts gX6_readsRow_X6_isHere rfl rfl rfl (by decide +kernel) ⟨Nat.le_of_ble_eq_true rfl, Nat.le_of_ble_eq_true rfl⟩) (mPreVS [(W_M cI cC cT h0 h1 h2 h3 h4 h5 h6 h7 h8 h9 h10 hlg tk fx xl xp_11 rmn hdn few mst fal al sv hi sn ch my kp tx rd_12 wy)] rfl hP hD hK hN [0] rfl (by decide) (va_recv hK (sP hP 0 rfl) (ci := 6) (q0 := 0) rfl rfl)) rfl rfl hl.1 rfl (lv_room (Nat.le_of_ble_eq_true rfl)) dX6_readsRow_42 ⟨Nat.zero_le _, Nat.zero_le _⟩) hP hD hS hA [0] rfl rfl rfl rfl (fun H locs hP hD hS => ?_)
        obtain ⟨⟨x_17, xp_18⟩, q_20, hf⟩ := bnd hf
        have K_19 : ∀ (H : Heap) (locs : List Loc), va_P D vwCl (List.flatten [(W_M cI cC cT h0 h1 h2 h3 h4 h5 h6 h7 h8 h9 h10 hlg tk fx xl xp_18 rmn hdn few mst fal al sv hi sn ch my kp tx rd_12 wy)]) H → va_D A (List.flatten [(W_M cI cC cT h0 h1 h2 h3 h4 h5 h6 h7 h8 h9 h10 hlg tk fx xl xp_18 rmn hdn few mst fal al sv hi sn ch my kp tx rd_12 wy)]) → va_S A s.heap H locs → ∀ (ls : Array Slot), lv_has ls 2 [(0, .ref h0), (1, .int x_17)] → W p l e rm_X6_readsRow s m ([.ref h0] : List Value).toArray below meth c H locs 0 0 (MQ below (mQi D (mTY cI cC cT) out A (List.flatten [(W_M cI cC cT h0 h1 h2 h3 h4 h5 h6 h7 h8 h9 h10 hlg tk fx xl o_xp o_rmn hdn few mst fal al sv hi sn ch my kp tx o_rd wy)])) ([.ref h0] : List Value).toArray s 0 0 A) (F0 m 110 ls []) := by
          intro H locs hP hD hS ls hl
          refine lv_aload_n hx hb dX6_readsRow_110 rfl (lv_at hl 0 rfl) ?_
          refine va_get (D := D) (ci := 6) (v := .ref h9) (C := RX6) (T := TX6) (N := 20) hx hb hts hin_X6 hown hK hP 0 rfl rfl 13 (by decide) fl_38 (fun _ h9 => h9) rfl dX6_readsRow_111 ?_
          refine lv_iconst (v := 4) hx hb dX6_readsRow_114 (by decide) ?_
          refine lv_aload_n hx hb dX6_readsRow_115 rfl (lv_at hl 0 rfl) ?_
          refine va_get (D := D) (ci := 6) (v := .int rmn) (C := RX6) (T := TX6) (N := 20) hx hb hts hin_X6 hown hK hP 0 rfl rfl 14 (by decide) fl_126 (fun _ h9 => h9) rfl dX6_readsRow_116 ?_
          refine lv_imul hx hb dX6_readsRow_119 ?_
          refine lv_iconst (v := 2) hx hb dX6_readsRow_120 (by decide) ?_
          refine lv_iadd hx hb dX6_readsRow_121 ?_
          refine lv_iload_n hx hb dX6_readsRow_122 rfl (lv_at hl 1 rfl) ?_
          obtain ⟨h_27, hf⟩ := grd hf
          refine va_iast hx hb hK hP hD hS 9 0 rfl rfl h_27 dX6_readsRow_123 (fun H locs hP hD hS => ?_)
          have hP : va_P D vwCl (List.flatten [(W_M cI cC cT h0 h1 h2 h3 h4 h5 h6 h7 h8 h9 h10 hlg tk fx xl xp_18 rmn hdn few mst fal al sv hi sn ch my kp tx (upd rd_12 ((4 * rmn) + 2).toNatClampNeg x_17) wy)]) H := hP
          have hD : va_D A (List.flatten [(W_M cI cC cT h0 h1 h2 h3 h4 h5 h6 h7 h8 h9 h10 hlg tk fx xl xp_18 rmn hdn few mst fal al sv hi sn ch my kp tx (upd rd_12 ((4 * rmn) + 2).toNatClampNeg x_17) wy)]) := hD
          refine lv_aload_n hx hb dX6_readsRow_124 rfl (lv_at hl 0 rfl) ?_
          refine va_get (D := D) (ci := 6) (v := .ref h9) (C := RX6) (T := TX6) (N := 20) hx hb hts hin_X6 hown hK hP 0 rfl rfl 13 (by decide) fl_38 (fun _ h9 => h9) rfl dX6_readsRow_125 ?_
          refine lv_iconst (v := 4) hx hb dX6_readsRow_128 (by decide) ?_
          refine lv_aload_n hx hb dX6_readsRow_129 rfl (lv_at hl 0 rfl) ?_
          refine va_get (D := D) (ci := 6) (v := .int rmn) (C := RX6) (T := TX6) (N := 20) hx hb hts hin_X6 hown hK hP 0 rfl rfl 14 (by decide) fl_126 (fun _ h9 => h9) rfl dX6_readsRow_130 ?_
          refine lv_imul hx hb dX6_readsRow_133 ?_
          refine lv_iconst (v := 3) hx hb dX6_readsRow_134 (by decide) ?_
          refine lv_iadd hx hb dX6_readsRow_135 ?_
          refine lv_bipush (v := -5) hx hb dX6_readsRow_136 (by decide) ?_
          obtain ⟨h_28, hf⟩ := grd hf
          refine va_iast hx hb hK hP hD hS 9 0 rfl rfl h_28 dX6_readsRow_138 (fun H locs hP hD hS => ?_)
          have hP : va_P D vwCl (List.flatten [(W_M cI cC cT h0 h1 h2 h3 h4 h5 h6 h7 h8 h9 h10 hlg tk fx xl xp_18 rmn hdn few mst fal al sv hi sn ch my kp tx (upd (upd rd_12 ((4 * rmn) + 2).toNatClampNeg x_17) ((4 * rmn) + 3).toNatClampNeg (-5)) wy)]) H := hP
          have hD : va_D A (List.flatten [(W_M cI cC cT h0 h1 h2 h3 h4 h5 h6 h7 h8 h9 h10 hlg tk fx xl xp_18 rmn hdn few mst fal al sv hi sn ch my kp tx (upd (upd rd_12 ((4 * rmn) + 2).toNatClampNeg x_17) ((4 * rmn) + 3).toNatClampNeg (-5)) wy)]) := hD
          refine lv_aload_n hx hb dX6_readsRow_139 rfl (lv_at hl 0 rfl) ?_
          refine lv_bipush (v := 62) hx hb dX6_readsRow_140 (by decide) ?_
          obtain ⟨⟨r_29, xp_30⟩, q_31, hf⟩ := bnd hf
          refine mGoiS (segs := [(W_M cI cC cT h0 h1 h2 h3 h4 h5 h6 h7 h8 h9 h10 hlg tk fx xl xp_18 rmn hdn few mst fal al sv hi sn ch my kp tx (upd (upd rd_12 ((4 * rmn) + 2).toNatClampNeg x_17) ((4 * rmn) + 3).toNatClampNeg (-5)) wy)]) (wcs := [(W_M cI cC cT h0 h1 h2 h3 h4 h5 h6 h7 h8 h9 h10 hlg tk fx xl xp_18 rmn hdn few mst fal al sv hi sn ch my kp tx (upd (upd rd_12 ((4 * rmn) + 2).toNatClampNeg x_17) ((4 * rmn) + 3).toNatClampNeg (-5)) wy)]) (w1s := [(W_M cI cC cT h0 h1 h2 h3 h4 h5 h6 h7 h8 h9 h10 hlg tk fx xl xp_30 rmn hdn few mst fal al sv hi sn ch my kp tx (upd (upd rd_12 ((4 * rmn) + 2).toNatClampNeg x_17) ((4 * rmn) + 3).toNatClampNeg (-5)) wy)]) (w2s := [(W_M cI cC cT h0 h1 h2 h3 h4 h5 h6 h7 h8 h9 h10 hlg tk fx xl xp_30 rmn hdn few mst fal al sv hi sn ch my kp tx (upd (upd rd_12 ((4 * rmn) + 2).toNatClampNeg x_17) ((4 * rmn) + 3).toNatClampNeg (-5)) wy)]) rfl rfl (va_runV (As := [.int 62]) (rest := []) ⟨hx, hb, hml, hown, hts⟩ (c_X6_takesSign l D cI cC cT h0 h1 h2 h3 h4 h5 h6 h7 h8 h9 h10 hlg tk fx xl xp_18 rmn hdn few mst fal al sv hi sn ch my kp tx (upd (upd rd_12 ((4 * rmn) + 2).toNatClampNeg x_17) ((4 * rmn) + 3).toNatClampNeg (-5)) wy H.size 62 r_29 xp_30 q_31) (cwV 1 hts gX6_readsRow_X6_takesSign rfl rfl rfl (by decide +kernel) ⟨Nat.le_of_ble_eq_true rfl, Nat.le_of_ble_eq_true rfl⟩) (mPreVS [(W_M cI cC cT h0 h1 h2 h3 h4 h5 h6 h7 h8 h9 h10 hlg tk fx xl xp_18 rmn hdn few mst fal al sv hi sn ch my kp tx (upd (upd rd_12 ((4 * rmn) + 2).toNatClampNeg x_17) ((4 * rmn) + 3).toNatClampNeg (-5)) wy)] rfl hP hD hK hN [0] rfl (by decide) (va_recv hK (sP hP 0 rfl) (ci := 6) (q0 := 0) rfl rfl)) rfl rfl hl.1 rfl (lv_room (Nat.le_of_ble_eq_true rfl)) dX6_readsRow_142 ⟨Nat.zero_le _, Nat.zero_le _⟩) hP hD hS hA [0] rfl rfl rfl rfl (fun H locs hP hD hS => ?_)
          refine lv_if_eq (tgt := 162) hx hb dX6_readsRow_145 (by decide) (fun c_32 => ?_) (fun c_32 => ?_)
          · have hf := ite_t hf c_32
            refine lv_aload_n hx hb dX6_readsRow_162 rfl (lv_at hl 0 rfl) ?_
            refine lv_dup hx hb dX6_readsRow_163 rfl ?_
            refine va_get (D := D) (ci := 6) (v := .int rmn) (C := RX6) (T := TX6) (N := 20) hx hb hts hin_X6 hown hK hP 0 rfl rfl 14 (by decide) fl_126 (fun _ h9 => h9) rfl dX6_readsRow_164 ?_
            refine lv_iconst (v := 1) hx hb dX6_readsRow_167 (by decide) ?_
            refine lv_iadd hx hb dX6_readsRow_168 ?_
            refine va_put (D := D) (ci := 6) (v := .int (rmn + 1)) (ty := .int) (C := RX6) (T := TX6) (N := 20) hx hb hts hin_X6 tyX6 tyX6_ok nmX6 hown hK hP hD hS 0 rfl rfl 14 (by decide) fl_126 (fun _ h9 => h9) rfl (by decide +kernel) rfl rfl (Nat.le_of_ble_eq_true rfl) dX6_readsRow_169 (fun H locs hP hD hS => ?_)
            have hP : va_P D vwCl (List.flatten [(W_M cI cC cT h0 h1 h2 h3 h4 h5 h6 h7 h8 h9 h10 hlg tk fx xl xp_30 (rmn + 1) hdn few mst fal al sv hi sn ch my kp tx (upd (upd rd_12 ((4 * rmn) + 2).toNatClampNeg x_17) ((4 * rmn) + 3).toNatClampNeg (-5)) wy)]) H := hP
            have hD : va_D A (List.flatten [(W_M cI cC cT h0 h1 h2 h3 h4 h5 h6 h7 h8 h9 h10 hlg tk fx xl xp_30 (rmn + 1) hdn few mst fal al sv hi sn ch my kp tx (upd (upd rd_12 ((4 * rmn) + 2).toNatClampNeg x_17) ((4 * rmn) + 3).toNatClampNeg (-5)) wy)]) := hD
            refine lv_iconst (v := 1) hx hb dX6_readsRow_172 (by decide) ?_
            cases hf
            exact mZret hx hb hr rfl hlocks hP hD hK hS dX6_readsRow_173
          · have hf := ite_f hf c_32
            refine lv_aload_n hx hb dX6_readsRow_148 rfl (lv_at hl 0 rfl) ?_
            refine lv_bipush (v := 48) hx hb dX6_readsRow_149 (by decide) ?_
            refine lv_bipush (v := 57) hx hb dX6_readsRow_151 (by decide) ?_
            refine lv_iconst (v := 3) hx hb dX6_readsRow_153 (by decide) ?_
            obtain ⟨⟨r_33, xp_34, rd_35⟩, q_36, hf⟩ := bnd hf
            refine mGoiS (segs := [(W_M cI cC cT h0 h1 h2 h3 h4 h5 h6 h7 h8 h9 h10 hlg tk fx xl xp_30 rmn hdn few mst fal al sv hi sn ch my kp tx (upd (upd rd_12 ((4 * rmn) + 2).toNatClampNeg x_17) ((4 * rmn) + 3).toNatClampNeg (-5)) wy)]) (wcs := [(W_M cI cC cT h0 h1 h2 h3 h4 h5 h6 h7 h8 h9 h10 hlg tk fx xl xp_30 rmn hdn few mst fal al sv hi sn ch my kp tx (upd (upd rd_12 ((4 * rmn) + 2).toNatClampNeg x_17) ((4 * rmn) + 3).toNatClampNeg (-5)) wy)]) (w1s := [(W_M cI cC cT h0 h1 h2 h3 h4 h5 h6 h7 h8 h9 h10 hlg tk fx xl xp_34 rmn hdn few mst fal al sv hi sn ch my kp tx rd_35 wy)]) (w2s := [(W_M cI cC cT h0 h1 h2 h3 h4 h5 h6 h7 h8 h9 h10 hlg tk fx xl xp_34 rmn hdn few mst fal al sv hi sn ch my kp tx rd_35 wy)]) rfl rfl (va_runV (As := [.int 48, .int 57, .int 3]) (rest := []) ⟨hx, hb, hml, hown, hts⟩ (c_X6_reads l D cI cC cT h0 h1 h2 h3 h4 h5 h6 h7 h8 h9 h10 hlg tk fx xl xp_30 rmn hdn few mst fal al sv hi sn ch my kp tx (upd (upd rd_12 ((4 * rmn) + 2).toNatClampNeg x_17) ((4 * rmn) + 3).toNatClampNeg (-5)) wy H.size 48 57 3 r_33 xp_34 rd_35 q_36) (cwV 3 hts gX6_readsRow_X6_reads rfl rfl rfl (by decide +kernel) ⟨Nat.le_of_ble_eq_true rfl, Nat.le_of_ble_eq_true rfl⟩) (mPreVS [(W_M cI cC cT h0 h1 h2 h3 h4 h5 h6 h7 h8 h9 h10 hlg tk fx xl xp_30 rmn hdn few mst fal al sv hi sn ch my kp tx (upd (upd rd_12 ((4 * rmn) + 2).toNatClampNeg x_17) ((4 * rmn) + 3).toNatClampNeg (-5)) wy)] rfl hP hD hK hN [0] rfl (by decide) (va_recv hK (sP hP 0 rfl) (ci := 6) (q0 := 0) rfl rfl)) rfl rfl hl.1 rfl (lv_room (Nat.le_of_ble_eq_true rfl)) dX6_readsRow_154 ⟨Nat.zero_le _, Nat.zero_le _⟩) hP hD hS hA [0] rfl rfl rfl rfl (fun H locs hP hD hS => ?_)
            refine lv_if_ne (tgt := 162) hx hb dX6_readsRow_157 (by decide) (fun c_37 => ?_) (fun c_37 => ?_)
            · have hf := ite_f hf c_37
              refine lv_aload_n hx hb dX6_readsRow_162 rfl (lv_at hl 0 rfl) ?_
              refine lv_dup hx hb dX6_readsRow_163 rfl ?_
              refine va_get (D := D) (ci := 6) (v := .int rmn) (C := RX6) (T := TX6) (N := 20) hx hb hts hin_X6 hown hK hP 0 rfl rfl 14 (by decide) fl_126 (fun _ h9 => h9) rfl dX6_readsRow_164 ?_
              refine lv_iconst (v := 1) hx hb dX6_readsRow_167 (by decide) ?_
              refine lv_iadd hx hb dX6_readsRow_168 ?_
              refine va_put (D := D) (ci := 6) (v := .int (rmn + 1)) (ty := .int) (C := RX6) (T := TX6) (N := 20) hx hb hts hin_X6 tyX6 tyX6_ok nmX6 hown hK hP hD hS 0 rfl rfl 14 (by decide) fl_126 (fun _ h9 => h9) rfl (by decide +kernel) rfl rfl (Nat.le_of_ble_eq_true rfl) dX6_readsRow_169 (fun H locs hP hD hS => ?_)
              have hP : va_P D vwCl (List.flatten [(W_M cI cC cT h0 h1 h2 h3 h4 h5 h6 h7 h8 h9 h10 hlg tk fx xl xp_34 (rmn + 1) hdn few mst fal al sv hi sn ch my kp tx rd_35 wy)]) H := hP
              have hD : va_D A (List.flatten [(W_M cI cC cT h0 h1 h2 h3 h4 h5 h6 h7 h8 h9 h10 hlg tk fx xl xp_34 (rmn + 1) hdn few mst fal al sv hi sn ch my kp tx rd_35 wy)]) := hD
              refine lv_iconst (v := 1) hx hb dX6_readsRow_172 (by decide) ?_
              cases hf
              exact mZret hx hb hr rfl hlocks hP hD hK hS dX6_readsRow_173
            · have hf := ite_t hf c_37
              refine lv_iconst (v := 0) hx hb dX6_readsRow_160 (by decide) ?_
              cases hf
              exact mZret hx hb hr rfl hlocks hP hD hK hS dX6_readsRow_161
        have hf := q_20
        refine lv_if_eq (tgt := 110) hx hb dX6_readsRow_45 (by decide) (fun c_21 => ?_) (fun c_21 => ?_)
        · have hf := ite_t hf c_21
          cases hf
          exact K_19 _ _ hP hD hS _ (lv_sub hl [1, 0] rfl)
        · have hf := ite_f hf c_21
          refine lv_aload_n hx hb dX6_readsRow_48 rfl (lv_at hl 1 rfl) ?_
          refine va_get (D := D) (ci := 6) (v := .ref h8) (C := RX6) (T := TX6) (N := 20) hx hb hts hin_X6 hown hK hP 0 rfl rfl 10 (by decide) fl_35 (fun _ h9 => h9) rfl dX6_readsRow_49 ?_
          refine lv_aload_n hx hb dX6_readsRow_52 rfl (lv_at hl 1 rfl) ?_
          refine va_get (D := D) (ci := 6) (v := .int xp_11) (C := RX6) (T := TX6) (N := 20) hx hb hts hin_X6 hown hK hP 0 rfl rfl 12 (by decide) fl_119 (fun _ h9 => h9) rfl dX6_readsRow_53 ?_
          obtain ⟨h_22, hf⟩ := grd hf
          refine va_iald hx hb hK hP 8 0 rfl rfl h_22 dX6_readsRow_56 ?_
          refine lv_bipush (v := 48) hx hb dX6_readsRow_57 (by decide) ?_
          refine lv_isub hx hb dX6_readsRow_59 ?_
          refine lv_istore_n (lv' := [(1, .int ((tx xp_11.toNatClampNeg) - 48)), (0, .ref h0)]) hx hb dX6_readsRow_60 rfl hl (by decide) rfl (fun ls hl => ?_)
          refine lv_aload_n hx hb dX6_readsRow_61 rfl (lv_at hl 1 rfl) ?_
          refine lv_dup hx hb dX6_readsRow_62 rfl ?_
          refine va_get (D := D) (ci := 6) (v := .int xp_11) (C := RX6) (T := TX6) (N := 20) hx hb hts hin_X6 hown hK hP 0 rfl rfl 12 (by decide) fl_119 (fun _ h9 => h9) rfl dX6_readsRow_63 ?_
          refine lv_iconst (v := 1) hx hb dX6_readsRow_66 (by decide) ?_
          refine lv_iadd hx hb dX6_readsRow_67 ?_
          refine va_put (D := D) (ci := 6) (v := .int (xp_11 + 1)) (ty := .int) (C := RX6) (T := TX6) (N := 20) hx hb hts hin_X6 tyX6 tyX6_ok nmX6 hown hK hP hD hS 0 rfl rfl 12 (by decide) fl_119 (fun _ h9 => h9) rfl (by decide +kernel) rfl rfl (Nat.le_of_ble_eq_true rfl) dX6_readsRow_68 (fun H locs hP hD hS => ?_)
          have hP : va_P D vwCl (List.flatten [(W_M cI cC cT h0 h1 h2 h3 h4 h5 h6 h7 h8 h9 h10 hlg tk fx xl (xp_11 + 1) rmn hdn few mst fal al sv hi sn ch my kp tx rd_12 wy)]) H := hP
          have hD : va_D A (List.flatten [(W_M cI cC cT h0 h1 h2 h3 h4 h5 h6 h7 h8 h9 h10 hlg tk fx xl (xp_11 + 1) rmn hdn few mst fal al sv hi sn ch my kp tx rd_12 wy)]) := hD
          refine lv_aload_n hx hb dX6_readsRow_71 rfl (lv_at hl 1 rfl) ?_
          refine lv_bipush (v := 48) hx hb dX6_readsRow_72 (by decide) ?_
          refine lv_bipush (v := 57) hx hb dX6_readsRow_74 (by decide) ?_
          obtain ⟨r_23, q_24, hf⟩ := bnd hf
          refine mGoiS (segs := [(W_M cI cC cT h0 h1 h2 h3 h4 h5 h6 h7 h8 h9 h10 hlg tk fx xl (xp_11 + 1) rmn hdn few mst fal al sv hi sn ch my kp tx rd_12 wy)]) (wcs := [(W_M cI cC cT h0 h1 h2 h3 h4 h5 h6 h7 h8 h9 h10 hlg tk fx xl (xp_11 + 1) rmn hdn few mst fal al sv hi sn ch my kp tx rd_12 wy)]) (w1s := [(W_M cI cC cT h0 h1 h2 h3 h4 h5 h6 h7 h8 h9 h10 hlg tk fx xl (xp_11 + 1) rmn hdn few mst fal al sv hi sn ch my kp tx rd_12 wy)]) (w2s := [(W_M cI cC cT h0 h1 h2 h3 h4 h5 h6 h7 h8 h9 h10 hlg tk fx xl (xp_11 + 1) rmn hdn few mst fal al sv hi sn ch my kp tx rd_12 wy)]) rfl rfl (va_runV (As := [.int 48, .int 57]) (rest := []) ⟨hx, hb, hml, hown, hts⟩ (c_X6_isHere l D cI cC cT h0 h1 h2 h3 h4 h5 h6 h7 h8 h9 h10 hlg tk fx xl (xp_11 + 1) rmn hdn few mst fal al sv hi sn ch my kp tx rd_12 wy H.size 48 57 r_23 q_24) (cwV 2 hts gX6_readsRow_X6_isHere rfl rfl rfl (by decide +kernel) ⟨Nat.le_of_ble_eq_true rfl, Nat.le_of_ble_eq_true rfl⟩) (mPreVS [(W_M cI cC cT h0 h1 h2 h3 h4 h5 h6 h7 h8 h9 h10 hlg tk fx xl (xp_11 + 1) rmn hdn few mst fal al sv hi sn ch my kp tx rd_12 wy)] rfl hP hD hK hN [0] rfl (by decide) (va_recv hK (sP hP 0 rfl) (ci := 6) (q0 := 0) rfl rfl)) rfl rfl hl.1 rfl (lv_room (Nat.le_of_ble_eq_true rfl)) dX6_readsRow_76 ⟨Nat.zero_le _, Nat.zero_le _⟩) hP hD hS hA [0] rfl rfl rfl rfl (fun H locs hP hD hS => ?_)
          refine lv_if_eq (tgt := 110) hx hb dX6_readsRow_79 (by decide) (fun c_25 => ?_) (fun c_25 => ?_)
          · have hf := ite_t hf c_25
            cases hf
            exact K_19 _ _ hP hD hS _ (lv_sub hl [1, 0] rfl)
          · have hf := ite_f hf c_25
            refine lv_bipush (v := 10) hx hb dX6_readsRow_82 (by decide) ?_
            refine lv_iload_n hx hb dX6_readsRow_84 rfl (lv_at hl 0 rfl) ?_
            refine lv_imul hx hb dX6_readsRow_85 ?_
            refine lv_aload_n hx hb dX6_readsRow_86 rfl (lv_at hl 1 rfl) ?_
            refine va_get (D := D) (ci := 6) (v := .ref h8) (C := RX6) (T := TX6) (N := 20) hx hb hts hin_X6 hown hK hP 0 rfl rfl 10 (by decide) fl_35 (fun _ h9 => h9) rfl dX6_readsRow_87 ?_
            refine lv_aload_n hx hb dX6_readsRow_90 rfl (lv_at hl 1 rfl) ?_
            refine va_get (D := D) (ci := 6) (v := .int (xp_11 + 1)) (C := RX6) (T := TX6) (N := 20) hx hb hts hin_X6 hown hK hP 0 rfl rfl 12 (by decide) fl_119 (fun _ h9 => h9) rfl dX6_readsRow_91 ?_
            obtain ⟨h_26, hf⟩ := grd hf
            refine va_iald hx hb hK hP 8 0 rfl rfl h_26 dX6_readsRow_94 ?_
            refine lv_iadd hx hb dX6_readsRow_95 ?_
            refine lv_bipush (v := 48) hx hb dX6_readsRow_96 (by decide) ?_
            refine lv_isub hx hb dX6_readsRow_98 ?_
            refine lv_istore_n (lv' := [(1, .int (((10 * ((tx xp_11.toNatClampNeg) - 48)) + (tx (xp_11 + 1).toNatClampNeg)) - 48)), (0, .ref h0)]) hx hb dX6_readsRow_99 rfl hl (by decide) rfl (fun ls hl => ?_)
            refine lv_aload_n hx hb dX6_readsRow_100 rfl (lv_at hl 1 rfl) ?_
            refine lv_dup hx hb dX6_readsRow_101 rfl ?_
            refine va_get (D := D) (ci := 6) (v := .int (xp_11 + 1)) (C := RX6) (T := TX6) (N := 20) hx hb hts hin_X6 hown hK hP 0 rfl rfl 12 (by decide) fl_119 (fun _ h9 => h9) rfl dX6_readsRow_102 ?_
            refine lv_iconst (v := 1) hx hb dX6_readsRow_105 (by decide) ?_
            refine lv_iadd hx hb dX6_readsRow_106 ?_
            refine va_put (D := D) (ci := 6) (v := .int ((xp_11 + 1) + 1)) (ty := .int) (C := RX6) (T := TX6) (N := 20) hx hb hts hin_X6 tyX6 tyX6_ok nmX6 hown hK hP hD hS 0 rfl rfl 12 (by decide) fl_119 (fun _ h9 => h9) rfl (by decide +kernel) rfl rfl (Nat.le_of_ble_eq_true rfl) dX6_readsRow_107 (fun H locs hP hD hS => ?_)
            have hP : va_P D vwCl (List.flatten [(W_M cI cC cT h0 h1 h2 h3 h4 h5 h6 h7 h8 h9 h10 hlg tk fx xl ((xp_11 + 1) + 1) rmn hdn few mst fal al sv hi sn ch my kp tx rd_12 wy)]) H := hP
            have hD : va_D A (List.flatten [(W_M cI cC cT h0 h1 h2 h3 h4 h5 h6 h7 h8 h9 h10 hlg tk fx xl ((xp_11 + 1) + 1) rmn hdn few mst fal al sv hi sn ch my kp tx rd_12 wy)]) := hD
            cases hf
            exact K_19 _ _ hP hD hS _ (lv_sub hl [1, 0] rfl)
      · have hf := ite_t hf c_14
        refine lv_iconst (v := 0) hx hb dX6_readsRow_33 (by decide) ?_
        cases hf
        exact mZret hx hb hr rfl hlocks hP hD hK hS dX6_readsRow_34
abbrev rm_X6_fault : Room := { frames := 4, cells := 0, slots := 0, locals := 91 }
set_option maxHeartbeats 4000000 in
set_option maxRecDepth 100000 in
theorem c_X6_fault (l : Launch) (D : va_G) (cI cC cT : ClassId) (h0 h1 h2 h3 h4 h5 h6 h7 h8 h9 h10 : Nat) (hlg : Int32) (tk : Int32) (fx : Int32) (xl : Int32) (xp : Int32) (rmn : Int32) (hdn : Int32) (few : Int32) (mst : Int32) (fal : Int32) (al : Nat → Int32) (sv : Nat → Int32) (hi : Nat → Int32) (sn : Nat → Int32) (ch : Nat → Int32) (my : Nat → Int32) (kp : Nat → Int32) (tx : Nat → Int32) (rd : Nat → Int32) (wy : Nat → Int32) (sz : Nat) (out : Int32) (o_xp : Int32) (o_rmn : Int32) (o_rd : Nat → Int32) (hf : f_X6_fault xl tx rd = some ((out, o_xp, o_rmn, o_rd))) : Met l yX6_fault wsX6_fault rm_X6_fault (mP D (mTY cI cC cT) [.ref h0] (List.flatten [(W_M cI cC cT h0 h1 h2 h3 h4 h5 h6 h7 h8 h9 h10 hlg tk fx xl xp rmn hdn few mst fal al sv hi sn ch my kp tx rd wy)]) sz) (mQi D (mTY cI cC cT) out (va_A (List.flatten [(W_M cI cC cT h0 h1 h2 h3 h4 h5 h6 h7 h8 h9 h10 hlg tk fx xl xp rmn hdn few mst fal al sv hi sn ch my kp tx rd wy)]) sz) (List.flatten [(W_M cI cC cT h0 h1 h2 h3 h4 h5 h6 h7 h8 h9 h10 hlg tk fx xl o_xp o_rmn hdn few mst fal al sv hi sn ch my kp tx o_rd wy)])) 0 0 (va_A (List.flatten [(W_M cI cC cT h0 h1 h2 h3 h4 h5 h6 h7 h8 h9 h10 hlg tk fx xl xp rmn hdn few mst fal al sv hi sn ch my kp tx rd wy)]) sz) := by
  refine mEnt (cc := cX6_fault) (maxL := 2) (ret := (some .int)) (own := RX6) (Qq := fun A => mQi D (mTY cI cC cT) out A (List.flatten [(W_M cI cC cT h0 h1 h2 h3 h4 h5 h6 h7 h8 h9 h10 hlg tk fx xl o_xp o_rmn hdn few mst fal al sv hi sn ch my kp tx o_rd wy)])) (by decide) rfl rfl (Nat.le_of_ble_eq_true rfl) ?_
  intro p e s m below meth c A ls H locs hx hb hr hml hlocks hown hts hN hA hP hK hD hS hl
  have hin_X6 : ∀ w ∈ u_ws RX6 TX6 20, w ∈ wsX6_fault := by decide +kernel
  have fl_116 := hts (.fieldLink RX6 116 "SureMendingsModel" "textLong" "I") (by decide +kernel)
  have fl_119 := hts (.fieldLink RX6 119 "SureMendingsModel" "spot" "I") (by decide +kernel)
  have fl_126 := hts (.fieldLink RX6 126 "SureMendingsModel" "readMany" "I") (by decide +kernel)
  have hl : lv_has ls 2 [(0, .ref h0)] := hl
  unfold f_X6_fault at hf
  refine lv_aload_n hx hb dX6_fault_0 rfl (lv_at hl 0 rfl) ?_
  refine lv_iconst (v := 0) hx hb dX6_fault_1 (by decide) ?_
  refine va_put (D := D) (ci := 6) (v := .int 0) (ty := .int) (C := RX6) (T := TX6) (N := 20) hx hb hts hin_X6 tyX6 tyX6_ok nmX6 hown hK hP hD hS 0 rfl rfl 12 (by decide) fl_119 (fun _ h9 => h9) rfl (by decide +kernel) rfl rfl (Nat.le_of_ble_eq_true rfl) dX6_fault_2 (fun H locs hP hD hS => ?_)
  have hP : va_P D vwCl (List.flatten [(W_M cI cC cT h0 h1 h2 h3 h4 h5 h6 h7 h8 h9 h10 hlg tk fx xl 0 rmn hdn few mst fal al sv hi sn ch my kp tx rd wy)]) H := hP
  have hD : va_D A (List.flatten [(W_M cI cC cT h0 h1 h2 h3 h4 h5 h6 h7 h8 h9 h10 hlg tk fx xl 0 rmn hdn few mst fal al sv hi sn ch my kp tx rd wy)]) := hD
  refine lv_aload_n hx hb dX6_fault_5 rfl (lv_at hl 0 rfl) ?_
  refine lv_iconst (v := 0) hx hb dX6_fault_6 (by decide) ?_
  refine va_put (D := D) (ci := 6) (v := .int 0) (ty := .int) (C := RX6) (T := TX6) (N := 20) hx hb hts hin_X6 tyX6 tyX6_ok nmX6 hown hK hP hD hS 0 rfl rfl 14 (by decide) fl_126 (fun _ h9 => h9) rfl (by decide +kernel) rfl rfl (Nat.le_of_ble_eq_true rfl) dX6_fault_7 (fun H locs hP hD hS => ?_)
  have hP : va_P D vwCl (List.flatten [(W_M cI cC cT h0 h1 h2 h3 h4 h5 h6 h7 h8 h9 h10 hlg tk fx xl 0 0 hdn few mst fal al sv hi sn ch my kp tx rd wy)]) H := hP
  have hD : va_D A (List.flatten [(W_M cI cC cT h0 h1 h2 h3 h4 h5 h6 h7 h8 h9 h10 hlg tk fx xl 0 0 hdn few mst fal al sv hi sn ch my kp tx rd wy)]) := hD
  refine lv_iconst (v := 1) hx hb dX6_fault_10 (by decide) ?_
  refine lv_istore_n (lv' := [(1, .int 1), (0, .ref h0)]) hx hb dX6_fault_11 rfl hl (by decide) rfl (fun ls hl => ?_)
  have LP_5 : ∀ (n_5 : Nat) (v1_1 : Int32) (xp_2 : Int32) (rmn_3 : Int32) (rd_4 : Nat → Int32), iter n_5 (b_X6_fault_1 xl tx) ((v1_1, xp_2, rmn_3, rd_4)) = some ((out, o_xp, o_rmn, o_rd)) → ∀ (H : Heap) (locs : List Loc), va_P D vwCl (List.flatten [(W_M cI cC cT h0 h1 h2 h3 h4 h5 h6 h7 h8 h9 h10 hlg tk fx xl xp_2 rmn_3 hdn few mst fal al sv hi sn ch my kp tx rd_4 wy)]) H → va_D A (List.flatten [(W_M cI cC cT h0 h1 h2 h3 h4 h5 h6 h7 h8 h9 h10 hlg tk fx xl xp_2 rmn_3 hdn few mst fal al sv hi sn ch my kp tx rd_4 wy)]) → va_S A s.heap H locs → ∀ (ls : Array Slot), lv_has ls 2 [(0, .ref h0), (1, .int v1_1)] → W p l e rm_X6_fault s m ([.ref h0] : List Value).toArray below meth c H locs 0 0 (MQ below (mQi D (mTY cI cC cT) out A (List.flatten [(W_M cI cC cT h0 h1 h2 h3 h4 h5 h6 h7 h8 h9 h10 hlg tk fx xl o_xp o_rmn hdn few mst fal al sv hi sn ch my kp tx o_rd wy)])) ([.ref h0] : List Value).toArray s 0 0 A) (F0 m 12 ls []) := by
    intro n_5
    induction n_5 with
    | zero => intro v1_1 xp_2 rmn_3 rd_4 hf; exact (iter_zero hf).elim
    | succ n_5 ih_5 =>
      intro v1_1 xp_2 rmn_3 rd_4 hf H locs hP hD hS ls hl
      obtain ⟨o_5, hf, ho_5⟩ := iter_succ hf
      dsimp only [b_X6_fault_1] at hf
      refine lv_iload_n hx hb dX6_fault_12 rfl (lv_at hl 1 rfl) ?_
      refine lv_if_eq (tgt := 38) hx hb dX6_fault_13 (by decide) (fun c_6 => ?_) (fun c_6 => ?_)
      · have hf := ite_t hf c_6
        refine lv_aload_n hx hb dX6_fault_38 rfl (lv_at hl 0 rfl) ?_
        refine va_get (D := D) (ci := 6) (v := .int xp_2) (C := RX6) (T := TX6) (N := 20) hx hb hts hin_X6 hown hK hP 0 rfl rfl 12 (by decide) fl_119 (fun _ h9 => h9) rfl dX6_fault_39 ?_
        refine lv_aload_n hx hb dX6_fault_42 rfl (lv_at hl 0 rfl) ?_
        refine va_get (D := D) (ci := 6) (v := .int xl) (C := RX6) (T := TX6) (N := 20) hx hb hts hin_X6 hown hK hP 0 rfl rfl 11 (by decide) fl_116 (fun _ h9 => h9) rfl dX6_fault_43 ?_
        refine lv_icmp_ne (tgt := 54) hx hb dX6_fault_46 (by decide) (fun c_7 => ?_) (fun c_7 => ?_)
        · have hf := ite_f hf c_7
          refine lv_aload_n hx hb dX6_fault_54 rfl (lv_at hl 0 rfl) ?_
          refine va_get (D := D) (ci := 6) (v := .int xp_2) (C := RX6) (T := TX6) (N := 20) hx hb hts hin_X6 hown hK hP 0 rfl rfl 12 (by decide) fl_119 (fun _ h9 => h9) rfl dX6_fault_55 ?_
          cases hf
          have hf := ho_5.2 _ rfl
          cases hf
          exact mIret hx hb hr hlocks hP hD hK hS dX6_fault_58
        · have hf := ite_t hf c_7
          refine lv_bipush (v := -5) hx hb dX6_fault_49 (by decide) ?_
          refine lv_goto (tgt := 58) hx hb dX6_fault_51 (by decide) ?_
          cases hf
          have hf := ho_5.2 _ rfl
          cases hf
          exact mIret hx hb hr hlocks hP hD hK hS dX6_fault_58
      · have hf := ite_f hf c_6
        refine lv_aload_n hx hb dX6_fault_16 rfl (lv_at hl 0 rfl) ?_
        obtain ⟨⟨r_8, xp_9, rmn_10, rd_11⟩, q_12, hf⟩ := bnd hf
        refine mGoiS (segs := [(W_M cI cC cT h0 h1 h2 h3 h4 h5 h6 h7 h8 h9 h10 hlg tk fx xl xp_2 rmn_3 hdn few mst fal al sv hi sn ch my kp tx rd_4 wy)]) (wcs := [(W_M cI cC cT h0 h1 h2 h3 h4 h5 h6 h7 h8 h9 h10 hlg tk fx xl xp_2 rmn_3 hdn few mst fal al sv hi sn ch my kp tx rd_4 wy)]) (w1s := [(W_M cI cC cT h0 h1 h2 h3 h4 h5 h6 h7 h8 h9 h10 hlg tk fx xl xp_9 rmn_10 hdn few mst fal al sv hi sn ch my kp tx rd_11 wy)]) (w2s := [(W_M cI cC cT h0 h1 h2 h3 h4 h5 h6 h7 h8 h9 h10 hlg tk fx xl xp_9 rmn_10 hdn few mst fal al sv hi sn ch my kp tx rd_11 wy)]) rfl rfl (va_runV (As := []) (rest := []) ⟨hx, hb, hml, hown, hts⟩ (c_X6_readsRow l D cI cC cT h0 h1 h2 h3 h4 h5 h6 h7 h8 h9 h10 hlg tk fx xl xp_2 rmn_3 hdn few mst fal al sv hi sn ch my kp tx rd_4 wy H.size r_8 xp_9 rmn_10 rd_11 q_12) (cwV 0 hts gX6_fault_X6_readsRow rfl rfl rfl (by decide +kernel) ⟨Nat.le_of_ble_eq_true rfl, Nat.le_of_ble_eq_true rfl⟩) (mPreVS [(W_M cI cC cT h0 h1 h2 h3 h4 h5 h6 h7 h8 h9 h10 hlg tk fx xl xp_2 rmn_3 hdn few mst fal al sv hi sn ch my kp tx rd_4 wy)] rfl hP hD hK hN [0] rfl (by decide) (va_recv hK (sP hP 0 rfl) (ci := 6) (q0 := 0) rfl rfl)) rfl rfl hl.1 rfl (lv_room (Nat.le_of_ble_eq_true rfl)) dX6_fault_17 ⟨Nat.zero_le _, Nat.zero_le _⟩) hP hD hS hA [0] rfl rfl rfl rfl (fun H locs hP hD hS => ?_)
        refine lv_if_ne (tgt := 28) hx hb dX6_fault_20 (by decide) (fun c_13 => ?_) (fun c_13 => ?_)
        · have hf := ite_f hf c_13
          refine lv_aload_n hx hb dX6_fault_28 rfl (lv_at hl 0 rfl) ?_
          refine lv_bipush (v := 44) hx hb dX6_fault_29 (by decide) ?_
          obtain ⟨⟨r_14, xp_15⟩, q_16, hf⟩ := bnd hf
          refine mGoiS (segs := [(W_M cI cC cT h0 h1 h2 h3 h4 h5 h6 h7 h8 h9 h10 hlg tk fx xl xp_9 rmn_10 hdn few mst fal al sv hi sn ch my kp tx rd_11 wy)]) (wcs := [(W_M cI cC cT h0 h1 h2 h3 h4 h5 h6 h7 h8 h9 h10 hlg tk fx xl xp_9 rmn_10 hdn few mst fal al sv hi sn ch my kp tx rd_11 wy)]) (w1s := [(W_M cI cC cT h0 h1 h2 h3 h4 h5 h6 h7 h8 h9 h10 hlg tk fx xl xp_15 rmn_10 hdn few mst fal al sv hi sn ch my kp tx rd_11 wy)]) (w2s := [(W_M cI cC cT h0 h1 h2 h3 h4 h5 h6 h7 h8 h9 h10 hlg tk fx xl xp_15 rmn_10 hdn few mst fal al sv hi sn ch my kp tx rd_11 wy)]) rfl rfl (va_runV (As := [.int 44]) (rest := []) ⟨hx, hb, hml, hown, hts⟩ (c_X6_takesSign l D cI cC cT h0 h1 h2 h3 h4 h5 h6 h7 h8 h9 h10 hlg tk fx xl xp_9 rmn_10 hdn few mst fal al sv hi sn ch my kp tx rd_11 wy H.size 44 r_14 xp_15 q_16) (cwV 1 hts gX6_fault_X6_takesSign rfl rfl rfl (by decide +kernel) ⟨Nat.le_of_ble_eq_true rfl, Nat.le_of_ble_eq_true rfl⟩) (mPreVS [(W_M cI cC cT h0 h1 h2 h3 h4 h5 h6 h7 h8 h9 h10 hlg tk fx xl xp_9 rmn_10 hdn few mst fal al sv hi sn ch my kp tx rd_11 wy)] rfl hP hD hK hN [0] rfl (by decide) (va_recv hK (sP hP 0 rfl) (ci := 6) (q0 := 0) rfl rfl)) rfl rfl hl.1 rfl (lv_room (Nat.le_of_ble_eq_true rfl)) dX6_fault_31 ⟨Nat.zero_le _, Nat.zero_le _⟩) hP hD hS hA [0] rfl rfl rfl rfl (fun H locs hP hD hS => ?_)
          refine lv_istore_n (lv' := [(1, .int r_14), (0, .ref h0)]) hx hb dX6_fault_34 rfl hl (by decide) rfl (fun ls hl => ?_)
          refine lv_goto (tgt := 12) hx hb dX6_fault_35 (by decide) ?_
          cases hf
          have hf := ho_5.1 _ rfl
          exact ih_5 _ _ _ _ hf _ _ hP hD hS _ (lv_sub hl [1, 0] rfl)
        · have hf := ite_t hf c_13
          refine lv_aload_n hx hb dX6_fault_23 rfl (lv_at hl 0 rfl) ?_
          refine va_get (D := D) (ci := 6) (v := .int xp_9) (C := RX6) (T := TX6) (N := 20) hx hb hts hin_X6 hown hK hP 0 rfl rfl 12 (by decide) fl_119 (fun _ h9 => h9) rfl dX6_fault_24 ?_
          cases hf
          have hf := ho_5.2 _ rfl
          cases hf
          exact mIret hx hb hr hlocks hP hD hK hS dX6_fault_27
  exact LP_5 _ _ _ _ _ hf _ _ hP hD hS _ (lv_sub hl [1, 0] rfl)
abbrev rm_X6_firstOf : Room := { frames := 1, cells := 0, slots := 0, locals := 22 }
set_option maxHeartbeats 4000000 in
set_option maxRecDepth 100000 in
theorem c_X6_firstOf (l : Launch) (D : va_G) (cI cC cT : ClassId) (h0 h1 h2 h3 h4 h5 h6 h7 h8 h9 h10 : Nat) (hlg : Int32) (tk : Int32) (fx : Int32) (xl : Int32) (xp : Int32) (rmn : Int32) (hdn : Int32) (few : Int32) (mst : Int32) (fal : Int32) (al : Nat → Int32) (sv : Nat → Int32) (hi : Nat → Int32) (sn : Nat → Int32) (ch : Nat → Int32) (my : Nat → Int32) (kp : Nat → Int32) (tx : Nat → Int32) (rd : Nat → Int32) (wy : Nat → Int32) (sz : Nat) (p0 : Int32) (out : Int32) (hf : f_X6_firstOf al p0 = some out) : Met l yX6_firstOf wsX6_firstOf rm_X6_firstOf (mP D (mTY cI cC cT) [.ref h0, .int p0] (List.flatten [(W_M cI cC cT h0 h1 h2 h3 h4 h5 h6 h7 h8 h9 h10 hlg tk fx xl xp rmn hdn few mst fal al sv hi sn ch my kp tx rd wy)]) sz) (mQi D (mTY cI cC cT) out (va_A (List.flatten [(W_M cI cC cT h0 h1 h2 h3 h4 h5 h6 h7 h8 h9 h10 hlg tk fx xl xp rmn hdn few mst fal al sv hi sn ch my kp tx rd wy)]) sz) (List.flatten [(W_M cI cC cT h0 h1 h2 h3 h4 h5 h6 h7 h8 h9 h10 hlg tk fx xl xp rmn hdn few mst fal al sv hi sn ch my kp tx rd wy)])) 0 0 (va_A (List.flatten [(W_M cI cC cT h0 h1 h2 h3 h4 h5 h6 h7 h8 h9 h10 hlg tk fx xl xp rmn hdn few mst fal al sv hi sn ch my kp tx rd wy)]) sz) := by
  refine mEnt (cc := cX6_firstOf) (maxL := 3) (ret := (some .int)) (own := RX6) (Qq := fun A => mQi D (mTY cI cC cT) out A (List.flatten [(W_M cI cC cT h0 h1 h2 h3 h4 h5 h6 h7 h8 h9 h10 hlg tk fx xl xp rmn hdn few mst fal al sv hi sn ch my kp tx rd wy)])) (by decide) rfl rfl (Nat.le_of_ble_eq_true rfl) ?_
  intro p e s m below meth c A ls H locs hx hb hr hml hlocks hown hts hN hA hP hK hD hS hl
  have hl : lv_has ls 3 [(0, .ref h0), (1, .int p0)] := hl
  unfold f_X6_firstOf at hf
  refine lv_iconst (v := 0) hx hb dX6_firstOf_0 (by decide) ?_
  refine lv_istore_n (lv' := [(2, .int 0), (0, .ref h0), (1, .int p0)]) hx hb dX6_firstOf_1 rfl hl (by decide) rfl (fun ls hl => ?_)
  have LP_2 : ∀ (n_2 : Nat) (v2_1 : Int32), iter n_2 (b_X6_firstOf_1 al p0) v2_1 = some out → ∀ (H : Heap) (locs : List Loc), va_P D vwCl (List.flatten [(W_M cI cC cT h0 h1 h2 h3 h4 h5 h6 h7 h8 h9 h10 hlg tk fx xl xp rmn hdn few mst fal al sv hi sn ch my kp tx rd wy)]) H → va_D A (List.flatten [(W_M cI cC cT h0 h1 h2 h3 h4 h5 h6 h7 h8 h9 h10 hlg tk fx xl xp rmn hdn few mst fal al sv hi sn ch my kp tx rd wy)]) → va_S A s.heap H locs → ∀ (ls : Array Slot), lv_has ls 3 [(0, .ref h0), (1, .int p0), (2, .int v2_1)] → W p l e rm_X6_firstOf s m ([.ref h0, .int p0] : List Value).toArray below meth c H locs 0 0 (MQ below (mQi D (mTY cI cC cT) out A (List.flatten [(W_M cI cC cT h0 h1 h2 h3 h4 h5 h6 h7 h8 h9 h10 hlg tk fx xl xp rmn hdn few mst fal al sv hi sn ch my kp tx rd wy)])) ([.ref h0, .int p0] : List Value).toArray s 0 0 A) (F0 m 2 ls []) := by
    intro n_2
    induction n_2 with
    | zero => intro v2_1 hf; exact (iter_zero hf).elim
    | succ n_2 ih_2 =>
      intro v2_1 hf H locs hP hD hS ls hl
      obtain ⟨o_2, hf, ho_2⟩ := iter_succ hf
      dsimp only [b_X6_firstOf_1] at hf
      refine lv_aload_n hx hb dX6_firstOf_2 rfl (lv_at hl 0 rfl) ?_
      refine lv_iload_n hx hb dX6_firstOf_3 rfl (lv_at hl 2 rfl) ?_
      refine lv_iconst (v := 0) hx hb dX6_firstOf_4 (by decide) ?_
      obtain ⟨r_3, q_4, hf⟩ := bnd hf
      refine mGoiS (segs := [(W_M cI cC cT h0 h1 h2 h3 h4 h5 h6 h7 h8 h9 h10 hlg tk fx xl xp rmn hdn few mst fal al sv hi sn ch my kp tx rd wy)]) (wcs := [(W_M cI cC cT h0 h1 h2 h3 h4 h5 h6 h7 h8 h9 h10 hlg tk fx xl xp rmn hdn few mst fal al sv hi sn ch my kp tx rd wy)]) (w1s := [(W_M cI cC cT h0 h1 h2 h3 h4 h5 h6 h7 h8 h9 h10 hlg tk fx xl xp rmn hdn few mst fal al sv hi sn ch my kp tx rd wy)]) (w2s := [(W_M cI cC cT h0 h1 h2 h3 h4 h5 h6 h7 h8 h9 h10 hlg tk fx xl xp rmn hdn few mst fal al sv hi sn ch my kp tx rd wy)]) rfl rfl (va_runV (As := [.int v2_1, .int 0]) (rest := []) ⟨hx, hb, hml, hown, hts⟩ (c_X6_of l D cI cC cT h0 h1 h2 h3 h4 h5 h6 h7 h8 h9 h10 hlg tk fx xl xp rmn hdn few mst fal al sv hi sn ch my kp tx rd wy H.size v2_1 0 r_3 q_4) (cwV 2 hts gX6_firstOf_X6_of rfl rfl rfl (by decide +kernel) ⟨Nat.le_of_ble_eq_true rfl, Nat.le_of_ble_eq_true rfl⟩) (mPreVS [(W_M cI cC cT h0 h1 h2 h3 h4 h5 h6 h7 h8 h9 h10 hlg tk fx xl xp rmn hdn few mst fal al sv hi sn ch my kp tx rd wy)] rfl hP hD hK hN [0] rfl (by decide) (va_recv hK (sP hP 0 rfl) (ci := 6) (q0 := 0) rfl rfl)) rfl rfl hl.1 rfl (lv_room (Nat.le_of_ble_eq_true rfl)) dX6_firstOf_5 ⟨Nat.zero_le _, Nat.zero_le _⟩) hP hD hS hA [0] rfl rfl rfl rfl (fun H locs hP hD hS => ?_)
      refine lv_iload_n hx hb dX6_firstOf_8 rfl (lv_at hl 1 rfl) ?_
      refine lv_icmp_eq (tgt := 18) hx hb dX6_firstOf_9 (by decide) (fun c_5 => ?_) (fun c_5 => ?_)
      · have hf := ite_t hf c_5
        refine lv_iload_n hx hb dX6_firstOf_18 rfl (lv_at hl 2 rfl) ?_
        cases hf
        have hf := ho_2.2 _ rfl
        cases hf
        exact mIret hx hb hr hlocks hP hD hK hS dX6_firstOf_19
      · have hf := ite_f hf c_5
        refine lv_iinc (v := v2_1 + 1) (lv' := [(2, .int (v2_1 + 1)), (0, .ref h0), (1, .int p0)]) hx hb dX6_firstOf_12 hl (k := 2) rfl rfl (by decide) rfl (fun ls hl => ?_)
        refine lv_goto (tgt := 2) hx hb dX6_firstOf_15 (by decide) ?_
        cases hf
        have hf := ho_2.1 _ rfl
        exact ih_2 _ hf _ _ hP hD hS _ (lv_sub hl [1, 2, 0] rfl)
  exact LP_2 _ _ hf _ _ hP hD hS _ (lv_sub hl [1, 2, 0] rfl)
abbrev rm_X6_isRow : Room := { frames := 1, cells := 0, slots := 0, locals := 25 }
set_option maxHeartbeats 4000000 in
set_option maxRecDepth 100000 in
theorem c_X6_isRow (l : Launch) (D : va_G) (cI cC cT : ClassId) (h0 h1 h2 h3 h4 h5 h6 h7 h8 h9 h10 : Nat) (hlg : Int32) (tk : Int32) (fx : Int32) (xl : Int32) (xp : Int32) (rmn : Int32) (hdn : Int32) (few : Int32) (mst : Int32) (fal : Int32) (al : Nat → Int32) (sv : Nat → Int32) (hi : Nat → Int32) (sn : Nat → Int32) (ch : Nat → Int32) (my : Nat → Int32) (kp : Nat → Int32) (tx : Nat → Int32) (rd : Nat → Int32) (wy : Nat → Int32) (sz : Nat) (p0 : Int32) (out : Int32) (hf : f_X6_isRow al p0 = some out) : Met l yX6_isRow wsX6_isRow rm_X6_isRow (mP D (mTY cI cC cT) [.ref h0, .int p0] (List.flatten [(W_M cI cC cT h0 h1 h2 h3 h4 h5 h6 h7 h8 h9 h10 hlg tk fx xl xp rmn hdn few mst fal al sv hi sn ch my kp tx rd wy)]) sz) (mQi D (mTY cI cC cT) out (va_A (List.flatten [(W_M cI cC cT h0 h1 h2 h3 h4 h5 h6 h7 h8 h9 h10 hlg tk fx xl xp rmn hdn few mst fal al sv hi sn ch my kp tx rd wy)]) sz) (List.flatten [(W_M cI cC cT h0 h1 h2 h3 h4 h5 h6 h7 h8 h9 h10 hlg tk fx xl xp rmn hdn few mst fal al sv hi sn ch my kp tx rd wy)])) 0 0 (va_A (List.flatten [(W_M cI cC cT h0 h1 h2 h3 h4 h5 h6 h7 h8 h9 h10 hlg tk fx xl xp rmn hdn few mst fal al sv hi sn ch my kp tx rd wy)]) sz) := by
  refine mEnt (cc := cX6_isRow) (maxL := 2) (ret := (some .boolean)) (own := RX6) (Qq := fun A => mQi D (mTY cI cC cT) out A (List.flatten [(W_M cI cC cT h0 h1 h2 h3 h4 h5 h6 h7 h8 h9 h10 hlg tk fx xl xp rmn hdn few mst fal al sv hi sn ch my kp tx rd wy)])) (by decide) rfl rfl (Nat.le_of_ble_eq_true rfl) ?_
  intro p e s m below meth c A ls H locs hx hb hr hml hlocks hown hts hN hA hP hK hD hS hl
  have hin_X6 : ∀ w ∈ u_ws RX6 TX6 20, w ∈ wsX6_isRow := by decide +kernel
  have fl_7 := hts (.fieldLink RX6 7 "SureMendingsModel" "all" "[I") (by decide +kernel)
  have hl : lv_has ls 2 [(0, .ref h0), (1, .int p0)] := hl
  unfold f_X6_isRow at hf
  refine lv_iload_n hx hb dX6_isRow_0 rfl (lv_at hl 1 rfl) ?_
  refine lv_i2l hx hb dX6_isRow_1 rfl ?_
  refine lv_lconst (v := 0) hx hb dX6_isRow_2 rfl ?_
  refine lv_aload_n hx hb dX6_isRow_3 rfl (lv_at hl 0 rfl) ?_
  refine va_get (D := D) (ci := 6) (v := .ref h1) (C := RX6) (T := TX6) (N := 20) hx hb hts hin_X6 hown hK hP 0 rfl rfl 0 (by decide) fl_7 (fun _ h9 => h9) rfl dX6_isRow_4 ?_
  refine lv_iconst (v := 0) hx hb dX6_isRow_7 (by decide) ?_
  refine va_iald hx hb hK hP 1 0 rfl rfl (i := 0) (by unfold vp_in; decide) dX6_isRow_8 ?_
  refine lv_tope (y := al 0) rfl ?_
  refine lv_i2l hx hb dX6_isRow_9 rfl ?_
  refine lv_lconst (v := 1) hx hb dX6_isRow_10 rfl ?_
  refine lv_lsub hx hb dX6_isRow_11 ?_
  obtain ⟨r_1, q_2, hf⟩ := bnd hf
  refine mGoiS (segs := [(W_M cI cC cT h0 h1 h2 h3 h4 h5 h6 h7 h8 h9 h10 hlg tk fx xl xp rmn hdn few mst fal al sv hi sn ch my kp tx rd wy)]) (wcs := []) (w1s := []) (w2s := [(W_M cI cC cT h0 h1 h2 h3 h4 h5 h6 h7 h8 h9 h10 hlg tk fx xl xp rmn hdn few mst fal al sv hi sn ch my kp tx rd wy)]) rfl rfl (va_runS (As := [.long (Int32.toInt64 p0), .long 0, .long ((Int32.toInt64 (al 0)) - 1)]) (rest := []) ⟨hx, hb, hml, hown, hts⟩ (c_X6_in l D cI cC cT H.size (Int32.toInt64 p0) 0 ((Int32.toInt64 (al 0)) - 1) r_1 q_2) (va_cwS 3 hts gX6_isRow_X6_in rfl rfl rfl (by decide +kernel) ⟨Nat.le_of_ble_eq_true rfl, Nat.le_of_ble_eq_true rfl⟩) (mPreSS [] rfl hP hD hK hN [] rfl (by decide)) rfl rfl hl.1 rfl (lv_room (Nat.le_of_ble_eq_true rfl)) dX6_isRow_12 ⟨Nat.zero_le _, Nat.zero_le _⟩) hP hD hS hA [] rfl rfl rfl rfl (fun H locs hP hD hS => ?_)
  obtain ⟨h_3, hf⟩ := grd hf
  cases hf
  exact mZret hx hb hr (isB_narrow h_3) hlocks hP hD hK hS dX6_isRow_15
abbrev rm_X6_keep : Room := { frames := 0, cells := 0, slots := 0, locals := 0 }
set_option maxHeartbeats 4000000 in
set_option maxRecDepth 100000 in
theorem c_X6_keep (l : Launch) (D : va_G) (cI cC cT : ClassId) (h0 h1 h2 h3 h4 h5 h6 h7 h8 h9 h10 : Nat) (hlg : Int32) (tk : Int32) (fx : Int32) (xl : Int32) (xp : Int32) (rmn : Int32) (hdn : Int32) (few : Int32) (mst : Int32) (fal : Int32) (al : Nat → Int32) (sv : Nat → Int32) (hi : Nat → Int32) (sn : Nat → Int32) (ch : Nat → Int32) (my : Nat → Int32) (kp : Nat → Int32) (tx : Nat → Int32) (rd : Nat → Int32) (wy : Nat → Int32) (sz : Nat) (out : Int32) (o_tk : Int32) (o_sn : Nat → Int32) (hf : f_X6_keep al sn = some ((out, o_tk, o_sn))) : Met l yX6_keep wsX6_keep rm_X6_keep (mP D (mTY cI cC cT) [.ref h0] (List.flatten [(W_M cI cC cT h0 h1 h2 h3 h4 h5 h6 h7 h8 h9 h10 hlg tk fx xl xp rmn hdn few mst fal al sv hi sn ch my kp tx rd wy)]) sz) (mQi D (mTY cI cC cT) out (va_A (List.flatten [(W_M cI cC cT h0 h1 h2 h3 h4 h5 h6 h7 h8 h9 h10 hlg tk fx xl xp rmn hdn few mst fal al sv hi sn ch my kp tx rd wy)]) sz) (List.flatten [(W_M cI cC cT h0 h1 h2 h3 h4 h5 h6 h7 h8 h9 h10 hlg o_tk fx xl xp rmn hdn few mst fal al sv hi o_sn ch my kp tx rd wy)])) 0 0 (va_A (List.flatten [(W_M cI cC cT h0 h1 h2 h3 h4 h5 h6 h7 h8 h9 h10 hlg tk fx xl xp rmn hdn few mst fal al sv hi sn ch my kp tx rd wy)]) sz) := by
  refine mEnt (cc := cX6_keep) (maxL := 2) (ret := (some .int)) (own := RX6) (Qq := fun A => mQi D (mTY cI cC cT) out A (List.flatten [(W_M cI cC cT h0 h1 h2 h3 h4 h5 h6 h7 h8 h9 h10 hlg o_tk fx xl xp rmn hdn few mst fal al sv hi o_sn ch my kp tx rd wy)])) (by decide) rfl rfl (Nat.le_of_ble_eq_true rfl) ?_
  intro p e s m below meth c A ls H locs hx hb hr hml hlocks hown hts hN hA hP hK hD hS hl
  have hin_X6 : ∀ w ∈ u_ws RX6 TX6 20, w ∈ wsX6_keep := by decide +kernel
  have fl_7 := hts (.fieldLink RX6 7 "SureMendingsModel" "all" "[I") (by decide +kernel)
  have fl_19 := hts (.fieldLink RX6 19 "SureMendingsModel" "snapshot" "[I") (by decide +kernel)
  have fl_143 := hts (.fieldLink RX6 143 "SureMendingsModel" "isTaken" "I") (by decide +kernel)
  have hl : lv_has ls 2 [(0, .ref h0)] := hl
  unfold f_X6_keep at hf
  refine lv_iconst (v := 0) hx hb dX6_keep_0 (by decide) ?_
  refine lv_istore_n (lv' := [(1, .int 0), (0, .ref h0)]) hx hb dX6_keep_1 rfl hl (by decide) rfl (fun ls hl => ?_)
  have LP_3 : ∀ (n_3 : Nat) (v1_1 : Int32) (sn_2 : Nat → Int32), iter n_3 (b_X6_keep_1 al) ((v1_1, sn_2)) = some ((out, o_tk, o_sn)) → ∀ (H : Heap) (locs : List Loc), va_P D vwCl (List.flatten [(W_M cI cC cT h0 h1 h2 h3 h4 h5 h6 h7 h8 h9 h10 hlg tk fx xl xp rmn hdn few mst fal al sv hi sn_2 ch my kp tx rd wy)]) H → va_D A (List.flatten [(W_M cI cC cT h0 h1 h2 h3 h4 h5 h6 h7 h8 h9 h10 hlg tk fx xl xp rmn hdn few mst fal al sv hi sn_2 ch my kp tx rd wy)]) → va_S A s.heap H locs → ∀ (ls : Array Slot), lv_has ls 2 [(0, .ref h0), (1, .int v1_1)] → W p l e rm_X6_keep s m ([.ref h0] : List Value).toArray below meth c H locs 0 0 (MQ below (mQi D (mTY cI cC cT) out A (List.flatten [(W_M cI cC cT h0 h1 h2 h3 h4 h5 h6 h7 h8 h9 h10 hlg o_tk fx xl xp rmn hdn few mst fal al sv hi o_sn ch my kp tx rd wy)])) ([.ref h0] : List Value).toArray s 0 0 A) (F0 m 2 ls []) := by
    intro n_3
    induction n_3 with
    | zero => intro v1_1 sn_2 hf; exact (iter_zero hf).elim
    | succ n_3 ih_3 =>
      intro v1_1 sn_2 hf H locs hP hD hS ls hl
      obtain ⟨o_3, hf, ho_3⟩ := iter_succ hf
      dsimp only [b_X6_keep_1] at hf
      refine lv_iload_n hx hb dX6_keep_2 rfl (lv_at hl 1 rfl) ?_
      refine lv_bipush (v := 82) hx hb dX6_keep_3 (by decide) ?_
      refine lv_icmp_ge (tgt := 26) hx hb dX6_keep_5 (by decide) (fun c_4 => ?_) (fun c_4 => ?_)
      · have hf := ite_t hf c_4
        refine lv_aload_n hx hb dX6_keep_26 rfl (lv_at hl 0 rfl) ?_
        refine lv_iconst (v := 1) hx hb dX6_keep_27 (by decide) ?_
        refine va_put (D := D) (ci := 6) (v := .int 1) (ty := .int) (C := RX6) (T := TX6) (N := 20) hx hb hts hin_X6 tyX6 tyX6_ok nmX6 hown hK hP hD hS 0 rfl rfl 5 (by decide) fl_143 (fun _ h9 => h9) rfl (by decide +kernel) rfl rfl (Nat.le_of_ble_eq_true rfl) dX6_keep_28 (fun H locs hP hD hS => ?_)
        have hP : va_P D vwCl (List.flatten [(W_M cI cC cT h0 h1 h2 h3 h4 h5 h6 h7 h8 h9 h10 hlg 1 fx xl xp rmn hdn few mst fal al sv hi sn_2 ch my kp tx rd wy)]) H := hP
        have hD : va_D A (List.flatten [(W_M cI cC cT h0 h1 h2 h3 h4 h5 h6 h7 h8 h9 h10 hlg 1 fx xl xp rmn hdn few mst fal al sv hi sn_2 ch my kp tx rd wy)]) := hD
        refine lv_aload_n hx hb dX6_keep_31 rfl (lv_at hl 0 rfl) ?_
        refine va_get (D := D) (ci := 6) (v := .ref h1) (C := RX6) (T := TX6) (N := 20) hx hb hts hin_X6 hown hK hP 0 rfl rfl 0 (by decide) fl_7 (fun _ h9 => h9) rfl dX6_keep_32 ?_
        refine lv_iconst (v := 0) hx hb dX6_keep_35 (by decide) ?_
        refine va_iald hx hb hK hP 1 0 rfl rfl (i := 0) (by unfold vp_in; decide) dX6_keep_36 ?_
        refine lv_tope (y := al 0) rfl ?_
        cases hf
        have hf := ho_3.2 _ rfl
        cases hf
        exact mIret hx hb hr hlocks hP hD hK hS dX6_keep_37
      · have hf := ite_f hf c_4
        refine lv_aload_n hx hb dX6_keep_8 rfl (lv_at hl 0 rfl) ?_
        refine va_get (D := D) (ci := 6) (v := .ref h4) (C := RX6) (T := TX6) (N := 20) hx hb hts hin_X6 hown hK hP 0 rfl rfl 4 (by decide) fl_19 (fun _ h9 => h9) rfl dX6_keep_9 ?_
        refine lv_iload_n hx hb dX6_keep_12 rfl (lv_at hl 1 rfl) ?_
        refine lv_aload_n hx hb dX6_keep_13 rfl (lv_at hl 0 rfl) ?_
        refine va_get (D := D) (ci := 6) (v := .ref h1) (C := RX6) (T := TX6) (N := 20) hx hb hts hin_X6 hown hK hP 0 rfl rfl 0 (by decide) fl_7 (fun _ h9 => h9) rfl dX6_keep_14 ?_
        refine lv_iload_n hx hb dX6_keep_17 rfl (lv_at hl 1 rfl) ?_
        obtain ⟨h_5, hf⟩ := grd hf
        refine va_iald hx hb hK hP 1 0 rfl rfl h_5 dX6_keep_18 ?_
        obtain ⟨h_6, hf⟩ := grd hf
        refine va_iast hx hb hK hP hD hS 4 0 rfl rfl h_6 dX6_keep_19 (fun H locs hP hD hS => ?_)
        have hP : va_P D vwCl (List.flatten [(W_M cI cC cT h0 h1 h2 h3 h4 h5 h6 h7 h8 h9 h10 hlg tk fx xl xp rmn hdn few mst fal al sv hi (upd sn_2 v1_1.toNatClampNeg (al v1_1.toNatClampNeg)) ch my kp tx rd wy)]) H := hP
        have hD : va_D A (List.flatten [(W_M cI cC cT h0 h1 h2 h3 h4 h5 h6 h7 h8 h9 h10 hlg tk fx xl xp rmn hdn few mst fal al sv hi (upd sn_2 v1_1.toNatClampNeg (al v1_1.toNatClampNeg)) ch my kp tx rd wy)]) := hD
        refine lv_iinc (v := v1_1 + 1) (lv' := [(1, .int (v1_1 + 1)), (0, .ref h0)]) hx hb dX6_keep_20 hl (k := 1) rfl rfl (by decide) rfl (fun ls hl => ?_)
        refine lv_goto (tgt := 2) hx hb dX6_keep_23 (by decide) ?_
        cases hf
        have hf := ho_3.1 _ rfl
        exact ih_3 _ _ hf _ _ hP hD hS _ (lv_sub hl [1, 0] rfl)
  exact LP_3 _ _ _ hf _ _ hP hD hS _ (lv_sub hl [1, 0] rfl)
abbrev rm_X6_kept_ : Room := { frames := 4, cells := 0, slots := 0, locals := 91 }
set_option maxHeartbeats 4000000 in
set_option maxRecDepth 100000 in
theorem c_X6_kept_ (l : Launch) (D : va_G) (cI cC cT : ClassId) (h0 h1 h2 h3 h4 h5 h6 h7 h8 h9 h10 : Nat) (hlg : Int32) (tk : Int32) (fx : Int32) (xl : Int32) (xp : Int32) (rmn : Int32) (hdn : Int32) (few : Int32) (mst : Int32) (fal : Int32) (al : Nat → Int32) (sv : Nat → Int32) (hi : Nat → Int32) (sn : Nat → Int32) (ch : Nat → Int32) (my : Nat → Int32) (kp : Nat → Int32) (tx : Nat → Int32) (rd : Nat → Int32) (wy : Nat → Int32) (sz : Nat) (p0 : Int32) (p1 : Int32) (out : Int32) (o_ch : Nat → Int32) (o_my : Nat → Int32) (o_kp : Nat → Int32) (hf : f_X6_kept_ fx al ch my kp p0 p1 = some ((out, o_ch, o_my, o_kp))) : Met l yX6_kept_ wsX6_kept_ rm_X6_kept_ (mP D (mTY cI cC cT) [.ref h0, .int p0, .int p1] (List.flatten [(W_M cI cC cT h0 h1 h2 h3 h4 h5 h6 h7 h8 h9 h10 hlg tk fx xl xp rmn hdn few mst fal al sv hi sn ch my kp tx rd wy)]) sz) (mQi D (mTY cI cC cT) out (va_A (List.flatten [(W_M cI cC cT h0 h1 h2 h3 h4 h5 h6 h7 h8 h9 h10 hlg tk fx xl xp rmn hdn few mst fal al sv hi sn ch my kp tx rd wy)]) sz) (List.flatten [(W_M cI cC cT h0 h1 h2 h3 h4 h5 h6 h7 h8 h9 h10 hlg tk fx xl xp rmn hdn few mst fal al sv hi sn o_ch o_my o_kp tx rd wy)])) 0 0 (va_A (List.flatten [(W_M cI cC cT h0 h1 h2 h3 h4 h5 h6 h7 h8 h9 h10 hlg tk fx xl xp rmn hdn few mst fal al sv hi sn ch my kp tx rd wy)]) sz) := by
  refine mEnt (cc := cX6_kept_) (maxL := 3) (ret := (some .int)) (own := RX6) (Qq := fun A => mQi D (mTY cI cC cT) out A (List.flatten [(W_M cI cC cT h0 h1 h2 h3 h4 h5 h6 h7 h8 h9 h10 hlg tk fx xl xp rmn hdn few mst fal al sv hi sn o_ch o_my o_kp tx rd wy)])) (by decide) rfl rfl (Nat.le_of_ble_eq_true rfl) ?_
  intro p e s m below meth c A ls H locs hx hb hr hml hlocks hown hts hN hA hP hK hD hS hl
  have hin_X6 : ∀ w ∈ u_ws RX6 TX6 20, w ∈ wsX6_kept_ := by decide +kernel
  have fl_28 := hts (.fieldLink RX6 28 "SureMendingsModel" "kept" "[I") (by decide +kernel)
  have hl : lv_has ls 3 [(0, .ref h0), (1, .int p0), (2, .int p1)] := hl
  unfold f_X6_kept_ at hf
  refine lv_iload_n hx hb dX6_kept__0 rfl (lv_at hl 2 rfl) ?_
  obtain ⟨r_1, q_2, hf⟩ := bnd hf
  refine mGoiS (segs := [(W_M cI cC cT h0 h1 h2 h3 h4 h5 h6 h7 h8 h9 h10 hlg tk fx xl xp rmn hdn few mst fal al sv hi sn ch my kp tx rd wy)]) (wcs := []) (w1s := []) (w2s := [(W_M cI cC cT h0 h1 h2 h3 h4 h5 h6 h7 h8 h9 h10 hlg tk fx xl xp rmn hdn few mst fal al sv hi sn ch my kp tx rd wy)]) rfl rfl (va_runS (As := [.int p1]) (rest := []) ⟨hx, hb, hml, hown, hts⟩ (c_X6_isKey l D cI cC cT H.size p1 r_1 q_2) (va_cwS 1 hts gX6_kept__X6_isKey rfl rfl rfl (by decide +kernel) ⟨Nat.le_of_ble_eq_true rfl, Nat.le_of_ble_eq_true rfl⟩) (mPreSS [] rfl hP hD hK hN [] rfl (by decide)) rfl rfl hl.1 rfl (lv_room (Nat.le_of_ble_eq_true rfl)) dX6_kept__1 ⟨Nat.zero_le _, Nat.zero_le _⟩) hP hD hS hA [] rfl rfl rfl rfl (fun H locs hP hD hS => ?_)
  refine lv_if_ne (tgt := 9) hx hb dX6_kept__4 (by decide) (fun c_3 => ?_) (fun c_3 => ?_)
  · have hf := ite_f hf c_3
    refine lv_aload_n hx hb dX6_kept__9 rfl (lv_at hl 0 rfl) ?_
    obtain ⟨⟨ch_4, my_5⟩, q_6, hf⟩ := bnd hf
    refine mGovS (segs := [(W_M cI cC cT h0 h1 h2 h3 h4 h5 h6 h7 h8 h9 h10 hlg tk fx xl xp rmn hdn few mst fal al sv hi sn ch my kp tx rd wy)]) (wcs := [(W_M cI cC cT h0 h1 h2 h3 h4 h5 h6 h7 h8 h9 h10 hlg tk fx xl xp rmn hdn few mst fal al sv hi sn ch my kp tx rd wy)]) (w1s := [(W_M cI cC cT h0 h1 h2 h3 h4 h5 h6 h7 h8 h9 h10 hlg tk fx xl xp rmn hdn few mst fal al sv hi sn ch_4 my_5 kp tx rd wy)]) (w2s := [(W_M cI cC cT h0 h1 h2 h3 h4 h5 h6 h7 h8 h9 h10 hlg tk fx xl xp rmn hdn few mst fal al sv hi sn ch_4 my_5 kp tx rd wy)]) rfl rfl (va_runV (As := []) (rest := []) ⟨hx, hb, hml, hown, hts⟩ (c_X6_findsChoices l D cI cC cT h0 h1 h2 h3 h4 h5 h6 h7 h8 h9 h10 hlg tk fx xl xp rmn hdn few mst fal al sv hi sn ch my kp tx rd wy H.size ch_4 my_5 q_6) (cwV 0 hts gX6_kept__X6_findsChoices rfl rfl rfl (by decide +kernel) ⟨Nat.le_of_ble_eq_true rfl, Nat.le_of_ble_eq_true rfl⟩) (mPreVS [(W_M cI cC cT h0 h1 h2 h3 h4 h5 h6 h7 h8 h9 h10 hlg tk fx xl xp rmn hdn few mst fal al sv hi sn ch my kp tx rd wy)] rfl hP hD hK hN [0] rfl (by decide) (va_recv hK (sP hP 0 rfl) (ci := 6) (q0 := 0) rfl rfl)) rfl rfl hl.1 rfl (lv_room (Nat.le_of_ble_eq_true rfl)) dX6_kept__10 ⟨Nat.zero_le _, Nat.zero_le _⟩) hP hD hS hA [0] rfl rfl rfl rfl (fun H locs hP hD hS => ?_)
    refine lv_iload_n hx hb dX6_kept__13 rfl (lv_at hl 1 rfl) ?_
    refine lv_i2l hx hb dX6_kept__14 rfl ?_
    refine lv_lconst (v := 0) hx hb dX6_kept__15 rfl ?_
    refine lv_aload_n hx hb dX6_kept__16 rfl (lv_at hl 0 rfl) ?_
    obtain ⟨r_7, q_8, hf⟩ := bnd hf
    refine mGoiS (segs := [(W_M cI cC cT h0 h1 h2 h3 h4 h5 h6 h7 h8 h9 h10 hlg tk fx xl xp rmn hdn few mst fal al sv hi sn ch_4 my_5 kp tx rd wy)]) (wcs := [(W_M cI cC cT h0 h1 h2 h3 h4 h5 h6 h7 h8 h9 h10 hlg tk fx xl xp rmn hdn few mst fal al sv hi sn ch_4 my_5 kp tx rd wy)]) (w1s := [(W_M cI cC cT h0 h1 h2 h3 h4 h5 h6 h7 h8 h9 h10 hlg tk fx xl xp rmn hdn few mst fal al sv hi sn ch_4 my_5 kp tx rd wy)]) (w2s := [(W_M cI cC cT h0 h1 h2 h3 h4 h5 h6 h7 h8 h9 h10 hlg tk fx xl xp rmn hdn few mst fal al sv hi sn ch_4 my_5 kp tx rd wy)]) rfl rfl (va_runV (As := []) (rest := [.long 0, .long (Int32.toInt64 p0)]) ⟨hx, hb, hml, hown, hts⟩ (c_X6_mendings l D cI cC cT h0 h1 h2 h3 h4 h5 h6 h7 h8 h9 h10 hlg tk fx xl xp rmn hdn few mst fal al sv hi sn ch_4 my_5 kp tx rd wy H.size r_7 q_8) (cwV 0 hts gX6_kept__X6_mendings rfl rfl rfl (by decide +kernel) ⟨Nat.le_of_ble_eq_true rfl, Nat.le_of_ble_eq_true rfl⟩) (mPreVS [(W_M cI cC cT h0 h1 h2 h3 h4 h5 h6 h7 h8 h9 h10 hlg tk fx xl xp rmn hdn few mst fal al sv hi sn ch_4 my_5 kp tx rd wy)] rfl hP hD hK hN [0] rfl (by decide) (va_recv hK (sP hP 0 rfl) (ci := 6) (q0 := 0) rfl rfl)) rfl rfl hl.1 rfl (lv_room (Nat.le_of_ble_eq_true rfl)) dX6_kept__17 ⟨Nat.zero_le _, Nat.zero_le _⟩) hP hD hS hA [0] rfl rfl rfl rfl (fun H locs hP hD hS => ?_)
    refine lv_i2l hx hb dX6_kept__20 rfl ?_
    refine lv_lconst (v := 1) hx hb dX6_kept__21 rfl ?_
    refine lv_lsub hx hb dX6_kept__22 ?_
    obtain ⟨r_9, q_10, hf⟩ := bnd hf
    refine mGoiS (segs := [(W_M cI cC cT h0 h1 h2 h3 h4 h5 h6 h7 h8 h9 h10 hlg tk fx xl xp rmn hdn few mst fal al sv hi sn ch_4 my_5 kp tx rd wy)]) (wcs := []) (w1s := []) (w2s := [(W_M cI cC cT h0 h1 h2 h3 h4 h5 h6 h7 h8 h9 h10 hlg tk fx xl xp rmn hdn few mst fal al sv hi sn ch_4 my_5 kp tx rd wy)]) rfl rfl (va_runS (As := [.long (Int32.toInt64 p0), .long 0, .long ((Int32.toInt64 r_7) - 1)]) (rest := []) ⟨hx, hb, hml, hown, hts⟩ (c_X6_in l D cI cC cT H.size (Int32.toInt64 p0) 0 ((Int32.toInt64 r_7) - 1) r_9 q_10) (va_cwS 3 hts gX6_kept__X6_in rfl rfl rfl (by decide +kernel) ⟨Nat.le_of_ble_eq_true rfl, Nat.le_of_ble_eq_true rfl⟩) (mPreSS [] rfl hP hD hK hN [] rfl (by decide)) rfl rfl hl.1 rfl (lv_room (Nat.le_of_ble_eq_true rfl)) dX6_kept__23 ⟨Nat.zero_le _, Nat.zero_le _⟩) hP hD hS hA [] rfl rfl rfl rfl (fun H locs hP hD hS => ?_)
    refine lv_if_ne (tgt := 32) hx hb dX6_kept__26 (by decide) (fun c_11 => ?_) (fun c_11 => ?_)
    · have hf := ite_f hf c_11
      refine lv_aload_n hx hb dX6_kept__32 rfl (lv_at hl 0 rfl) ?_
      refine lv_iload_n hx hb dX6_kept__33 rfl (lv_at hl 1 rfl) ?_
      obtain ⟨kp_12, q_13, hf⟩ := bnd hf
      refine mGovS (segs := [(W_M cI cC cT h0 h1 h2 h3 h4 h5 h6 h7 h8 h9 h10 hlg tk fx xl xp rmn hdn few mst fal al sv hi sn ch_4 my_5 kp tx rd wy)]) (wcs := [(W_M cI cC cT h0 h1 h2 h3 h4 h5 h6 h7 h8 h9 h10 hlg tk fx xl xp rmn hdn few mst fal al sv hi sn ch_4 my_5 kp tx rd wy)]) (w1s := [(W_M cI cC cT h0 h1 h2 h3 h4 h5 h6 h7 h8 h9 h10 hlg tk fx xl xp rmn hdn few mst fal al sv hi sn ch_4 my_5 kp_12 tx rd wy)]) (w2s := [(W_M cI cC cT h0 h1 h2 h3 h4 h5 h6 h7 h8 h9 h10 hlg tk fx xl xp rmn hdn few mst fal al sv hi sn ch_4 my_5 kp_12 tx rd wy)]) rfl rfl (va_runV (As := [.int p0]) (rest := []) ⟨hx, hb, hml, hown, hts⟩ (c_X6_takes l D cI cC cT h0 h1 h2 h3 h4 h5 h6 h7 h8 h9 h10 hlg tk fx xl xp rmn hdn few mst fal al sv hi sn ch_4 my_5 kp tx rd wy H.size p0 kp_12 q_13) (cwV 1 hts gX6_kept__X6_takes rfl rfl rfl (by decide +kernel) ⟨Nat.le_of_ble_eq_true rfl, Nat.le_of_ble_eq_true rfl⟩) (mPreVS [(W_M cI cC cT h0 h1 h2 h3 h4 h5 h6 h7 h8 h9 h10 hlg tk fx xl xp rmn hdn few mst fal al sv hi sn ch_4 my_5 kp tx rd wy)] rfl hP hD hK hN [0] rfl (by decide) (va_recv hK (sP hP 0 rfl) (ci := 6) (q0 := 0) rfl rfl)) rfl rfl hl.1 rfl (lv_room (Nat.le_of_ble_eq_true rfl)) dX6_kept__34 ⟨Nat.zero_le _, Nat.zero_le _⟩) hP hD hS hA [0] rfl rfl rfl rfl (fun H locs hP hD hS => ?_)
      refine lv_aload_n hx hb dX6_kept__37 rfl (lv_at hl 0 rfl) ?_
      refine va_get (D := D) (ci := 6) (v := .ref h7) (C := RX6) (T := TX6) (N := 20) hx hb hts hin_X6 hown hK hP 0 rfl rfl 8 (by decide) fl_28 (fun _ h9 => h9) rfl dX6_kept__38 ?_
      refine lv_iload_n hx hb dX6_kept__41 rfl (lv_at hl 2 rfl) ?_
      obtain ⟨h_14, hf⟩ := grd hf
      refine va_iald hx hb hK hP 7 0 rfl rfl h_14 dX6_kept__42 ?_
      cases hf
      exact mIret hx hb hr hlocks hP hD hK hS dX6_kept__43
    · have hf := ite_t hf c_11
      refine lv_bipush (v := -2) hx hb dX6_kept__29 (by decide) ?_
      cases hf
      exact mIret hx hb hr hlocks hP hD hK hS dX6_kept__31
  · have hf := ite_t hf c_3
    refine lv_iconst (v := -1) hx hb dX6_kept__7 (by decide) ?_
    cases hf
    exact mIret hx hb hr hlocks hP hD hK hS dX6_kept__8
abbrev rm_X6_pointing : Room := { frames := 1, cells := 0, slots := 0, locals := 22 }
set_option maxHeartbeats 4000000 in
set_option maxRecDepth 100000 in
theorem c_X6_pointing (l : Launch) (D : va_G) (cI cC cT : ClassId) (h0 h1 h2 h3 h4 h5 h6 h7 h8 h9 h10 : Nat) (hlg : Int32) (tk : Int32) (fx : Int32) (xl : Int32) (xp : Int32) (rmn : Int32) (hdn : Int32) (few : Int32) (mst : Int32) (fal : Int32) (al : Nat → Int32) (sv : Nat → Int32) (hi : Nat → Int32) (sn : Nat → Int32) (ch : Nat → Int32) (my : Nat → Int32) (kp : Nat → Int32) (tx : Nat → Int32) (rd : Nat → Int32) (wy : Nat → Int32) (sz : Nat) (p0 : Int32) (out : Int32) (hf : f_X6_pointing al p0 = some out) : Met l yX6_pointing wsX6_pointing rm_X6_pointing (mP D (mTY cI cC cT) [.ref h0, .int p0] (List.flatten [(W_M cI cC cT h0 h1 h2 h3 h4 h5 h6 h7 h8 h9 h10 hlg tk fx xl xp rmn hdn few mst fal al sv hi sn ch my kp tx rd wy)]) sz) (mQi D (mTY cI cC cT) out (va_A (List.flatten [(W_M cI cC cT h0 h1 h2 h3 h4 h5 h6 h7 h8 h9 h10 hlg tk fx xl xp rmn hdn few mst fal al sv hi sn ch my kp tx rd wy)]) sz) (List.flatten [(W_M cI cC cT h0 h1 h2 h3 h4 h5 h6 h7 h8 h9 h10 hlg tk fx xl xp rmn hdn few mst fal al sv hi sn ch my kp tx rd wy)])) 0 0 (va_A (List.flatten [(W_M cI cC cT h0 h1 h2 h3 h4 h5 h6 h7 h8 h9 h10 hlg tk fx xl xp rmn hdn few mst fal al sv hi sn ch my kp tx rd wy)]) sz) := by
  refine mEnt (cc := cX6_pointing) (maxL := 4) (ret := (some .int)) (own := RX6) (Qq := fun A => mQi D (mTY cI cC cT) out A (List.flatten [(W_M cI cC cT h0 h1 h2 h3 h4 h5 h6 h7 h8 h9 h10 hlg tk fx xl xp rmn hdn few mst fal al sv hi sn ch my kp tx rd wy)])) (by decide) rfl rfl (Nat.le_of_ble_eq_true rfl) ?_
  intro p e s m below meth c A ls H locs hx hb hr hml hlocks hown hts hN hA hP hK hD hS hl
  have hin_X6 : ∀ w ∈ u_ws RX6 TX6 20, w ∈ wsX6_pointing := by decide +kernel
  have fl_7 := hts (.fieldLink RX6 7 "SureMendingsModel" "all" "[I") (by decide +kernel)
  have hl : lv_has ls 4 [(0, .ref h0), (1, .int p0)] := hl
  unfold f_X6_pointing at hf
  refine lv_iconst (v := 0) hx hb dX6_pointing_0 (by decide) ?_
  refine lv_istore_n (lv' := [(2, .int 0), (0, .ref h0), (1, .int p0)]) hx hb dX6_pointing_1 rfl hl (by decide) rfl (fun ls hl => ?_)
  refine lv_iconst (v := 0) hx hb dX6_pointing_2 (by decide) ?_
  refine lv_istore_n (lv' := [(3, .int 0), (2, .int 0), (0, .ref h0), (1, .int p0)]) hx hb dX6_pointing_3 rfl hl (by decide) rfl (fun ls hl => ?_)
  have LP_3 : ∀ (n_3 : Nat) (v2_1 : Int32) (v3_2 : Int32), iter n_3 (b_X6_pointing_1 al p0) ((v2_1, v3_2)) = some out → ∀ (H : Heap) (locs : List Loc), va_P D vwCl (List.flatten [(W_M cI cC cT h0 h1 h2 h3 h4 h5 h6 h7 h8 h9 h10 hlg tk fx xl xp rmn hdn few mst fal al sv hi sn ch my kp tx rd wy)]) H → va_D A (List.flatten [(W_M cI cC cT h0 h1 h2 h3 h4 h5 h6 h7 h8 h9 h10 hlg tk fx xl xp rmn hdn few mst fal al sv hi sn ch my kp tx rd wy)]) → va_S A s.heap H locs → ∀ (ls : Array Slot), lv_has ls 4 [(0, .ref h0), (1, .int p0), (2, .int v2_1), (3, .int v3_2)] → W p l e rm_X6_pointing s m ([.ref h0, .int p0] : List Value).toArray below meth c H locs 0 0 (MQ below (mQi D (mTY cI cC cT) out A (List.flatten [(W_M cI cC cT h0 h1 h2 h3 h4 h5 h6 h7 h8 h9 h10 hlg tk fx xl xp rmn hdn few mst fal al sv hi sn ch my kp tx rd wy)])) ([.ref h0, .int p0] : List Value).toArray s 0 0 A) (F0 m 4 ls []) := by
    intro n_3
    induction n_3 with
    | zero => intro v2_1 v3_2 hf; exact (iter_zero hf).elim
    | succ n_3 ih_3 =>
      intro v2_1 v3_2 hf H locs hP hD hS ls hl
      obtain ⟨o_3, hf, ho_3⟩ := iter_succ hf
      dsimp only [b_X6_pointing_1] at hf
      refine lv_iload_n hx hb dX6_pointing_4 rfl (lv_at hl 3 rfl) ?_
      refine lv_aload_n hx hb dX6_pointing_5 rfl (lv_at hl 0 rfl) ?_
      refine va_get (D := D) (ci := 6) (v := .ref h1) (C := RX6) (T := TX6) (N := 20) hx hb hts hin_X6 hown hK hP 0 rfl rfl 0 (by decide) fl_7 (fun _ h9 => h9) rfl dX6_pointing_6 ?_
      refine lv_iconst (v := 0) hx hb dX6_pointing_9 (by decide) ?_
      refine va_iald hx hb hK hP 1 0 rfl rfl (i := 0) (by unfold vp_in; decide) dX6_pointing_10 ?_
      refine lv_tope (y := al 0) rfl ?_
      refine lv_icmp_ge (tgt := 38) hx hb dX6_pointing_11 (by decide) (fun c_4 => ?_) (fun c_4 => ?_)
      · have hf := ite_t hf c_4
        refine lv_iload_n hx hb dX6_pointing_38 rfl (lv_at hl 2 rfl) ?_
        cases hf
        have hf := ho_3.2 _ rfl
        cases hf
        exact mIret hx hb hr hlocks hP hD hK hS dX6_pointing_39
      · have hf := ite_f hf c_4
        refine lv_iload_n hx hb dX6_pointing_14 rfl (lv_at hl 2 rfl) ?_
        refine lv_aload_n hx hb dX6_pointing_15 rfl (lv_at hl 0 rfl) ?_
        refine lv_iload_n hx hb dX6_pointing_16 rfl (lv_at hl 3 rfl) ?_
        refine lv_iconst (v := 3) hx hb dX6_pointing_17 (by decide) ?_
        obtain ⟨r_5, q_6, hf⟩ := bnd hf
        refine mGoiS (segs := [(W_M cI cC cT h0 h1 h2 h3 h4 h5 h6 h7 h8 h9 h10 hlg tk fx xl xp rmn hdn few mst fal al sv hi sn ch my kp tx rd wy)]) (wcs := [(W_M cI cC cT h0 h1 h2 h3 h4 h5 h6 h7 h8 h9 h10 hlg tk fx xl xp rmn hdn few mst fal al sv hi sn ch my kp tx rd wy)]) (w1s := [(W_M cI cC cT h0 h1 h2 h3 h4 h5 h6 h7 h8 h9 h10 hlg tk fx xl xp rmn hdn few mst fal al sv hi sn ch my kp tx rd wy)]) (w2s := [(W_M cI cC cT h0 h1 h2 h3 h4 h5 h6 h7 h8 h9 h10 hlg tk fx xl xp rmn hdn few mst fal al sv hi sn ch my kp tx rd wy)]) rfl rfl (va_runV (As := [.int v3_2, .int 3]) (rest := [.int v2_1]) ⟨hx, hb, hml, hown, hts⟩ (c_X6_of l D cI cC cT h0 h1 h2 h3 h4 h5 h6 h7 h8 h9 h10 hlg tk fx xl xp rmn hdn few mst fal al sv hi sn ch my kp tx rd wy H.size v3_2 3 r_5 q_6) (cwV 2 hts gX6_pointing_X6_of rfl rfl rfl (by decide +kernel) ⟨Nat.le_of_ble_eq_true rfl, Nat.le_of_ble_eq_true rfl⟩) (mPreVS [(W_M cI cC cT h0 h1 h2 h3 h4 h5 h6 h7 h8 h9 h10 hlg tk fx xl xp rmn hdn few mst fal al sv hi sn ch my kp tx rd wy)] rfl hP hD hK hN [0] rfl (by decide) (va_recv hK (sP hP 0 rfl) (ci := 6) (q0 := 0) rfl rfl)) rfl rfl hl.1 rfl (lv_room (Nat.le_of_ble_eq_true rfl)) dX6_pointing_18 ⟨Nat.zero_le _, Nat.zero_le _⟩) hP hD hS hA [0] rfl rfl rfl rfl (fun H locs hP hD hS => ?_)
        refine lv_iload_n hx hb dX6_pointing_21 rfl (lv_at hl 1 rfl) ?_
        obtain ⟨x_7, q_9, hf⟩ := bnd hf
        have K_8 : ∀ (H : Heap) (locs : List Loc), va_P D vwCl (List.flatten [(W_M cI cC cT h0 h1 h2 h3 h4 h5 h6 h7 h8 h9 h10 hlg tk fx xl xp rmn hdn few mst fal al sv hi sn ch my kp tx rd wy)]) H → va_D A (List.flatten [(W_M cI cC cT h0 h1 h2 h3 h4 h5 h6 h7 h8 h9 h10 hlg tk fx xl xp rmn hdn few mst fal al sv hi sn ch my kp tx rd wy)]) → va_S A s.heap H locs → ∀ (ls : Array Slot), lv_has ls 4 [(0, .ref h0), (1, .int p0), (3, .int v3_2)] → W p l e rm_X6_pointing s m ([.ref h0, .int p0] : List Value).toArray below meth c H locs 0 0 (MQ below (mQi D (mTY cI cC cT) out A (List.flatten [(W_M cI cC cT h0 h1 h2 h3 h4 h5 h6 h7 h8 h9 h10 hlg tk fx xl xp rmn hdn few mst fal al sv hi sn ch my kp tx rd wy)])) ([.ref h0, .int p0] : List Value).toArray s 0 0 A) (F0 m 30 ls [.int x_7, .int v2_1]) := by
          intro H locs hP hD hS ls hl
          refine lv_iadd hx hb dX6_pointing_30 ?_
          refine lv_istore_n (lv' := [(2, .int (v2_1 + x_7)), (0, .ref h0), (1, .int p0), (3, .int v3_2)]) hx hb dX6_pointing_31 rfl hl (by decide) rfl (fun ls hl => ?_)
          refine lv_iinc (v := v3_2 + 1) (lv' := [(3, .int (v3_2 + 1)), (2, .int (v2_1 + x_7)), (0, .ref h0), (1, .int p0)]) hx hb dX6_pointing_32 hl (k := 3) rfl rfl (by decide) rfl (fun ls hl => ?_)
          refine lv_goto (tgt := 4) hx hb dX6_pointing_35 (by decide) ?_
          cases hf
          have hf := ho_3.1 _ rfl
          exact ih_3 _ _ hf _ _ hP hD hS _ (lv_sub hl [2, 3, 1, 0] rfl)
        have hf := q_9
        refine lv_icmp_ne (tgt := 29) hx hb dX6_pointing_22 (by decide) (fun c_10 => ?_) (fun c_10 => ?_)
        · have hf := ite_f hf c_10
          refine lv_iconst (v := 0) hx hb dX6_pointing_29 (by decide) ?_
          cases hf
          exact K_8 _ _ hP hD hS _ (lv_sub hl [0, 1, 3] rfl)
        · have hf := ite_t hf c_10
          refine lv_iconst (v := 1) hx hb dX6_pointing_25 (by decide) ?_
          refine lv_goto (tgt := 30) hx hb dX6_pointing_26 (by decide) ?_
          cases hf
          exact K_8 _ _ hP hD hS _ (lv_sub hl [0, 1, 3] rfl)
  exact LP_3 _ _ _ hf _ _ hP hD hS _ (lv_sub hl [2, 3, 1, 0] rfl)
abbrev rm_X6_key : Room := { frames := 4, cells := 0, slots := 0, locals := 91 }
set_option maxHeartbeats 4000000 in
set_option maxRecDepth 100000 in
theorem c_X6_key (l : Launch) (D : va_G) (cI cC cT : ClassId) (h0 h1 h2 h3 h4 h5 h6 h7 h8 h9 h10 : Nat) (hlg : Int32) (tk : Int32) (fx : Int32) (xl : Int32) (xp : Int32) (rmn : Int32) (hdn : Int32) (few : Int32) (mst : Int32) (fal : Int32) (al : Nat → Int32) (sv : Nat → Int32) (hi : Nat → Int32) (sn : Nat → Int32) (ch : Nat → Int32) (my : Nat → Int32) (kp : Nat → Int32) (tx : Nat → Int32) (rd : Nat → Int32) (wy : Nat → Int32) (sz : Nat) (p0 : Int32) (p1 : Int32) (out : Int32) (o_ch : Nat → Int32) (o_my : Nat → Int32) (hf : f_X6_key fx al ch my p0 p1 = some ((out, o_ch, o_my))) : Met l yX6_key wsX6_key rm_X6_key (mP D (mTY cI cC cT) [.ref h0, .int p0, .int p1] (List.flatten [(W_M cI cC cT h0 h1 h2 h3 h4 h5 h6 h7 h8 h9 h10 hlg tk fx xl xp rmn hdn few mst fal al sv hi sn ch my kp tx rd wy)]) sz) (mQi D (mTY cI cC cT) out (va_A (List.flatten [(W_M cI cC cT h0 h1 h2 h3 h4 h5 h6 h7 h8 h9 h10 hlg tk fx xl xp rmn hdn few mst fal al sv hi sn ch my kp tx rd wy)]) sz) (List.flatten [(W_M cI cC cT h0 h1 h2 h3 h4 h5 h6 h7 h8 h9 h10 hlg tk fx xl xp rmn hdn few mst fal al sv hi sn o_ch o_my kp tx rd wy)])) 0 0 (va_A (List.flatten [(W_M cI cC cT h0 h1 h2 h3 h4 h5 h6 h7 h8 h9 h10 hlg tk fx xl xp rmn hdn few mst fal al sv hi sn ch my kp tx rd wy)]) sz) := by
  refine mEnt (cc := cX6_key) (maxL := 3) (ret := (some .int)) (own := RX6) (Qq := fun A => mQi D (mTY cI cC cT) out A (List.flatten [(W_M cI cC cT h0 h1 h2 h3 h4 h5 h6 h7 h8 h9 h10 hlg tk fx xl xp rmn hdn few mst fal al sv hi sn o_ch o_my kp tx rd wy)])) (by decide) rfl rfl (Nat.le_of_ble_eq_true rfl) ?_
  intro p e s m below meth c A ls H locs hx hb hr hml hlocks hown hts hN hA hP hK hD hS hl
  have hin_X6 : ∀ w ∈ u_ws RX6 TX6 20, w ∈ wsX6_key := by decide +kernel
  have fl_25 := hts (.fieldLink RX6 25 "SureMendingsModel" "many" "[I") (by decide +kernel)
  have hl : lv_has ls 3 [(0, .ref h0), (1, .int p0), (2, .int p1)] := hl
  unfold f_X6_key at hf
  refine lv_iload_n hx hb dX6_key_0 rfl (lv_at hl 1 rfl) ?_
  obtain ⟨r_1, q_2, hf⟩ := bnd hf
  refine mGoiS (segs := [(W_M cI cC cT h0 h1 h2 h3 h4 h5 h6 h7 h8 h9 h10 hlg tk fx xl xp rmn hdn few mst fal al sv hi sn ch my kp tx rd wy)]) (wcs := []) (w1s := []) (w2s := [(W_M cI cC cT h0 h1 h2 h3 h4 h5 h6 h7 h8 h9 h10 hlg tk fx xl xp rmn hdn few mst fal al sv hi sn ch my kp tx rd wy)]) rfl rfl (va_runS (As := [.int p0]) (rest := []) ⟨hx, hb, hml, hown, hts⟩ (c_X6_isKey l D cI cC cT H.size p0 r_1 q_2) (va_cwS 1 hts gX6_key_X6_isKey rfl rfl rfl (by decide +kernel) ⟨Nat.le_of_ble_eq_true rfl, Nat.le_of_ble_eq_true rfl⟩) (mPreSS [] rfl hP hD hK hN [] rfl (by decide)) rfl rfl hl.1 rfl (lv_room (Nat.le_of_ble_eq_true rfl)) dX6_key_1 ⟨Nat.zero_le _, Nat.zero_le _⟩) hP hD hS hA [] rfl rfl rfl rfl (fun H locs hP hD hS => ?_)
  refine lv_if_ne (tgt := 9) hx hb dX6_key_4 (by decide) (fun c_3 => ?_) (fun c_3 => ?_)
  · have hf := ite_f hf c_3
    refine lv_aload_n hx hb dX6_key_9 rfl (lv_at hl 0 rfl) ?_
    obtain ⟨⟨ch_4, my_5⟩, q_6, hf⟩ := bnd hf
    refine mGovS (segs := [(W_M cI cC cT h0 h1 h2 h3 h4 h5 h6 h7 h8 h9 h10 hlg tk fx xl xp rmn hdn few mst fal al sv hi sn ch my kp tx rd wy)]) (wcs := [(W_M cI cC cT h0 h1 h2 h3 h4 h5 h6 h7 h8 h9 h10 hlg tk fx xl xp rmn hdn few mst fal al sv hi sn ch my kp tx rd wy)]) (w1s := [(W_M cI cC cT h0 h1 h2 h3 h4 h5 h6 h7 h8 h9 h10 hlg tk fx xl xp rmn hdn few mst fal al sv hi sn ch_4 my_5 kp tx rd wy)]) (w2s := [(W_M cI cC cT h0 h1 h2 h3 h4 h5 h6 h7 h8 h9 h10 hlg tk fx xl xp rmn hdn few mst fal al sv hi sn ch_4 my_5 kp tx rd wy)]) rfl rfl (va_runV (As := []) (rest := []) ⟨hx, hb, hml, hown, hts⟩ (c_X6_findsChoices l D cI cC cT h0 h1 h2 h3 h4 h5 h6 h7 h8 h9 h10 hlg tk fx xl xp rmn hdn few mst fal al sv hi sn ch my kp tx rd wy H.size ch_4 my_5 q_6) (cwV 0 hts gX6_key_X6_findsChoices rfl rfl rfl (by decide +kernel) ⟨Nat.le_of_ble_eq_true rfl, Nat.le_of_ble_eq_true rfl⟩) (mPreVS [(W_M cI cC cT h0 h1 h2 h3 h4 h5 h6 h7 h8 h9 h10 hlg tk fx xl xp rmn hdn few mst fal al sv hi sn ch my kp tx rd wy)] rfl hP hD hK hN [0] rfl (by decide) (va_recv hK (sP hP 0 rfl) (ci := 6) (q0 := 0) rfl rfl)) rfl rfl hl.1 rfl (lv_room (Nat.le_of_ble_eq_true rfl)) dX6_key_10 ⟨Nat.zero_le _, Nat.zero_le _⟩) hP hD hS hA [0] rfl rfl rfl rfl (fun H locs hP hD hS => ?_)
    refine lv_iload_n hx hb dX6_key_13 rfl (lv_at hl 2 rfl) ?_
    by_cases c_7 : p1 = 0
    · have hf := ite_t hf c_7
      refine lv_tableIn (tgt := 48) hx hb dX6_key_14 (by rw [c_7]; decide) (by rw [c_7]; decide) (by rw [c_7]; rfl) (by decide) ?_
      refine lv_aload_n hx hb dX6_key_48 rfl (lv_at hl 0 rfl) ?_
      refine lv_iload_n hx hb dX6_key_49 rfl (lv_at hl 1 rfl) ?_
      obtain ⟨r_8, q_9, hf⟩ := bnd hf
      refine mGoiS (segs := [(W_M cI cC cT h0 h1 h2 h3 h4 h5 h6 h7 h8 h9 h10 hlg tk fx xl xp rmn hdn few mst fal al sv hi sn ch_4 my_5 kp tx rd wy)]) (wcs := [(W_M cI cC cT h0 h1 h2 h3 h4 h5 h6 h7 h8 h9 h10 hlg tk fx xl xp rmn hdn few mst fal al sv hi sn ch_4 my_5 kp tx rd wy)]) (w1s := [(W_M cI cC cT h0 h1 h2 h3 h4 h5 h6 h7 h8 h9 h10 hlg tk fx xl xp rmn hdn few mst fal al sv hi sn ch_4 my_5 kp tx rd wy)]) (w2s := [(W_M cI cC cT h0 h1 h2 h3 h4 h5 h6 h7 h8 h9 h10 hlg tk fx xl xp rmn hdn few mst fal al sv hi sn ch_4 my_5 kp tx rd wy)]) rfl rfl (va_runV (As := [.int p0]) (rest := []) ⟨hx, hb, hml, hown, hts⟩ (c_X6_rowsOf l D cI cC cT h0 h1 h2 h3 h4 h5 h6 h7 h8 h9 h10 hlg tk fx xl xp rmn hdn few mst fal al sv hi sn ch_4 my_5 kp tx rd wy H.size p0 r_8 q_9) (cwV 1 hts gX6_key_X6_rowsOf rfl rfl rfl (by decide +kernel) ⟨Nat.le_of_ble_eq_true rfl, Nat.le_of_ble_eq_true rfl⟩) (mPreVS [(W_M cI cC cT h0 h1 h2 h3 h4 h5 h6 h7 h8 h9 h10 hlg tk fx xl xp rmn hdn few mst fal al sv hi sn ch_4 my_5 kp tx rd wy)] rfl hP hD hK hN [0] rfl (by decide) (va_recv hK (sP hP 0 rfl) (ci := 6) (q0 := 0) rfl rfl)) rfl rfl hl.1 rfl (lv_room (Nat.le_of_ble_eq_true rfl)) dX6_key_50 ⟨Nat.zero_le _, Nat.zero_le _⟩) hP hD hS hA [0] rfl rfl rfl rfl (fun H locs hP hD hS => ?_)
      cases hf
      exact mIret hx hb hr hlocks hP hD hK hS dX6_key_53
    have hf := ite_f hf c_7
    by_cases c_10 : p1 = 1
    · have hf := ite_t hf c_10
      refine lv_tableIn (tgt := 54) hx hb dX6_key_14 (by rw [c_10]; decide) (by rw [c_10]; decide) (by rw [c_10]; rfl) (by decide) ?_
      refine lv_aload_n hx hb dX6_key_54 rfl (lv_at hl 0 rfl) ?_
      refine va_get (D := D) (ci := 6) (v := .ref h6) (C := RX6) (T := TX6) (N := 20) hx hb hts hin_X6 hown hK hP 0 rfl rfl 7 (by decide) fl_25 (fun _ h9 => h9) rfl dX6_key_55 ?_
      refine lv_iload_n hx hb dX6_key_58 rfl (lv_at hl 1 rfl) ?_
      obtain ⟨h_11, hf⟩ := grd hf
      refine va_iald hx hb hK hP 6 0 rfl rfl h_11 dX6_key_59 ?_
      cases hf
      exact mIret hx hb hr hlocks hP hD hK hS dX6_key_60
    have hf := ite_f hf c_10
    by_cases c_12 : p1 = 2
    · have hf := ite_t hf c_12
      refine lv_tableIn (tgt := 61) hx hb dX6_key_14 (by rw [c_12]; decide) (by rw [c_12]; decide) (by rw [c_12]; rfl) (by decide) ?_
      refine lv_aload_n hx hb dX6_key_61 rfl (lv_at hl 0 rfl) ?_
      refine lv_iload_n hx hb dX6_key_62 rfl (lv_at hl 1 rfl) ?_
      refine lv_iconst (v := 0) hx hb dX6_key_63 (by decide) ?_
      obtain ⟨r_13, q_14, hf⟩ := bnd hf
      refine mGoiS (segs := [(W_M cI cC cT h0 h1 h2 h3 h4 h5 h6 h7 h8 h9 h10 hlg tk fx xl xp rmn hdn few mst fal al sv hi sn ch_4 my_5 kp tx rd wy)]) (wcs := [(W_M cI cC cT h0 h1 h2 h3 h4 h5 h6 h7 h8 h9 h10 hlg tk fx xl xp rmn hdn few mst fal al sv hi sn ch_4 my_5 kp tx rd wy)]) (w1s := [(W_M cI cC cT h0 h1 h2 h3 h4 h5 h6 h7 h8 h9 h10 hlg tk fx xl xp rmn hdn few mst fal al sv hi sn ch_4 my_5 kp tx rd wy)]) (w2s := [(W_M cI cC cT h0 h1 h2 h3 h4 h5 h6 h7 h8 h9 h10 hlg tk fx xl xp rmn hdn few mst fal al sv hi sn ch_4 my_5 kp tx rd wy)]) rfl rfl (va_runV (As := [.int p0, .int 0]) (rest := []) ⟨hx, hb, hml, hown, hts⟩ (c_X6_outermost l D cI cC cT h0 h1 h2 h3 h4 h5 h6 h7 h8 h9 h10 hlg tk fx xl xp rmn hdn few mst fal al sv hi sn ch_4 my_5 kp tx rd wy H.size p0 0 r_13 q_14) (cwV 2 hts gX6_key_X6_outermost rfl rfl rfl (by decide +kernel) ⟨Nat.le_of_ble_eq_true rfl, Nat.le_of_ble_eq_true rfl⟩) (mPreVS [(W_M cI cC cT h0 h1 h2 h3 h4 h5 h6 h7 h8 h9 h10 hlg tk fx xl xp rmn hdn few mst fal al sv hi sn ch_4 my_5 kp tx rd wy)] rfl hP hD hK hN [0] rfl (by decide) (va_recv hK (sP hP 0 rfl) (ci := 6) (q0 := 0) rfl rfl)) rfl rfl hl.1 rfl (lv_room (Nat.le_of_ble_eq_true rfl)) dX6_key_64 ⟨Nat.zero_le _, Nat.zero_le _⟩) hP hD hS hA [0] rfl rfl rfl rfl (fun H locs hP hD hS => ?_)
      cases hf
      exact mIret hx hb hr hlocks hP hD hK hS dX6_key_67
    have hf := ite_f hf c_12
    by_cases c_15 : p1 = 3
    · have hf := ite_t hf c_15
      refine lv_tableIn (tgt := 68) hx hb dX6_key_14 (by rw [c_15]; decide) (by rw [c_15]; decide) (by rw [c_15]; rfl) (by decide) ?_
      refine lv_aload_n hx hb dX6_key_68 rfl (lv_at hl 0 rfl) ?_
      refine lv_iload_n hx hb dX6_key_69 rfl (lv_at hl 1 rfl) ?_
      refine lv_iconst (v := 1) hx hb dX6_key_70 (by decide) ?_
      obtain ⟨r_16, q_17, hf⟩ := bnd hf
      refine mGoiS (segs := [(W_M cI cC cT h0 h1 h2 h3 h4 h5 h6 h7 h8 h9 h10 hlg tk fx xl xp rmn hdn few mst fal al sv hi sn ch_4 my_5 kp tx rd wy)]) (wcs := [(W_M cI cC cT h0 h1 h2 h3 h4 h5 h6 h7 h8 h9 h10 hlg tk fx xl xp rmn hdn few mst fal al sv hi sn ch_4 my_5 kp tx rd wy)]) (w1s := [(W_M cI cC cT h0 h1 h2 h3 h4 h5 h6 h7 h8 h9 h10 hlg tk fx xl xp rmn hdn few mst fal al sv hi sn ch_4 my_5 kp tx rd wy)]) (w2s := [(W_M cI cC cT h0 h1 h2 h3 h4 h5 h6 h7 h8 h9 h10 hlg tk fx xl xp rmn hdn few mst fal al sv hi sn ch_4 my_5 kp tx rd wy)]) rfl rfl (va_runV (As := [.int p0, .int 1]) (rest := []) ⟨hx, hb, hml, hown, hts⟩ (c_X6_outermost l D cI cC cT h0 h1 h2 h3 h4 h5 h6 h7 h8 h9 h10 hlg tk fx xl xp rmn hdn few mst fal al sv hi sn ch_4 my_5 kp tx rd wy H.size p0 1 r_16 q_17) (cwV 2 hts gX6_key_X6_outermost rfl rfl rfl (by decide +kernel) ⟨Nat.le_of_ble_eq_true rfl, Nat.le_of_ble_eq_true rfl⟩) (mPreVS [(W_M cI cC cT h0 h1 h2 h3 h4 h5 h6 h7 h8 h9 h10 hlg tk fx xl xp rmn hdn few mst fal al sv hi sn ch_4 my_5 kp tx rd wy)] rfl hP hD hK hN [0] rfl (by decide) (va_recv hK (sP hP 0 rfl) (ci := 6) (q0 := 0) rfl rfl)) rfl rfl hl.1 rfl (lv_room (Nat.le_of_ble_eq_true rfl)) dX6_key_71 ⟨Nat.zero_le _, Nat.zero_le _⟩) hP hD hS hA [0] rfl rfl rfl rfl (fun H locs hP hD hS => ?_)
      cases hf
      exact mIret hx hb hr hlocks hP hD hK hS dX6_key_74
    have hf := ite_f hf c_15
    by_cases c_18 : p1 = 4
    · have hf := ite_t hf c_18
      refine lv_tableIn (tgt := 75) hx hb dX6_key_14 (by rw [c_18]; decide) (by rw [c_18]; decide) (by rw [c_18]; rfl) (by decide) ?_
      refine lv_aload_n hx hb dX6_key_75 rfl (lv_at hl 0 rfl) ?_
      refine lv_iload_n hx hb dX6_key_76 rfl (lv_at hl 1 rfl) ?_
      obtain ⟨r_19, q_20, hf⟩ := bnd hf
      refine mGoiS (segs := [(W_M cI cC cT h0 h1 h2 h3 h4 h5 h6 h7 h8 h9 h10 hlg tk fx xl xp rmn hdn few mst fal al sv hi sn ch_4 my_5 kp tx rd wy)]) (wcs := [(W_M cI cC cT h0 h1 h2 h3 h4 h5 h6 h7 h8 h9 h10 hlg tk fx xl xp rmn hdn few mst fal al sv hi sn ch_4 my_5 kp tx rd wy)]) (w1s := [(W_M cI cC cT h0 h1 h2 h3 h4 h5 h6 h7 h8 h9 h10 hlg tk fx xl xp rmn hdn few mst fal al sv hi sn ch_4 my_5 kp tx rd wy)]) (w2s := [(W_M cI cC cT h0 h1 h2 h3 h4 h5 h6 h7 h8 h9 h10 hlg tk fx xl xp rmn hdn few mst fal al sv hi sn ch_4 my_5 kp tx rd wy)]) rfl rfl (va_runV (As := [.int p0]) (rest := []) ⟨hx, hb, hml, hown, hts⟩ (c_X6_pointing l D cI cC cT h0 h1 h2 h3 h4 h5 h6 h7 h8 h9 h10 hlg tk fx xl xp rmn hdn few mst fal al sv hi sn ch_4 my_5 kp tx rd wy H.size p0 r_19 q_20) (cwV 1 hts gX6_key_X6_pointing rfl rfl rfl (by decide +kernel) ⟨Nat.le_of_ble_eq_true rfl, Nat.le_of_ble_eq_true rfl⟩) (mPreVS [(W_M cI cC cT h0 h1 h2 h3 h4 h5 h6 h7 h8 h9 h10 hlg tk fx xl xp rmn hdn few mst fal al sv hi sn ch_4 my_5 kp tx rd wy)] rfl hP hD hK hN [0] rfl (by decide) (va_recv hK (sP hP 0 rfl) (ci := 6) (q0 := 0) rfl rfl)) rfl rfl hl.1 rfl (lv_room (Nat.le_of_ble_eq_true rfl)) dX6_key_77 ⟨Nat.zero_le _, Nat.zero_le _⟩) hP hD hS hA [0] rfl rfl rfl rfl (fun H locs hP hD hS => ?_)
      cases hf
      exact mIret hx hb hr hlocks hP hD hK hS dX6_key_80
    have hf := ite_f hf c_18
    refine lv_tableOut (tgt := 81) hx hb dX6_key_14 (tsw_out 4 (by decide) (fun j hj => by rcases (show j = 0 ∨ j = 1 ∨ j = 2 ∨ j = 3 ∨ j = 4 by omega) with rfl | rfl | rfl | rfl | rfl <;> assumption)) (by decide) ?_
    refine lv_bipush (v := -2) hx hb dX6_key_81 (by decide) ?_
    cases hf
    exact mIret hx hb hr hlocks hP hD hK hS dX6_key_83
  · have hf := ite_t hf c_3
    refine lv_iconst (v := -1) hx hb dX6_key_7 (by decide) ?_
    cases hf
    exact mIret hx hb hr hlocks hP hD hK hS dX6_key_8
abbrev rm_X6_lastOf : Room := { frames := 1, cells := 0, slots := 0, locals := 22 }
set_option maxHeartbeats 4000000 in
set_option maxRecDepth 100000 in
theorem c_X6_lastOf (l : Launch) (D : va_G) (cI cC cT : ClassId) (h0 h1 h2 h3 h4 h5 h6 h7 h8 h9 h10 : Nat) (hlg : Int32) (tk : Int32) (fx : Int32) (xl : Int32) (xp : Int32) (rmn : Int32) (hdn : Int32) (few : Int32) (mst : Int32) (fal : Int32) (al : Nat → Int32) (sv : Nat → Int32) (hi : Nat → Int32) (sn : Nat → Int32) (ch : Nat → Int32) (my : Nat → Int32) (kp : Nat → Int32) (tx : Nat → Int32) (rd : Nat → Int32) (wy : Nat → Int32) (sz : Nat) (p0 : Int32) (out : Int32) (hf : f_X6_lastOf al p0 = some out) : Met l yX6_lastOf wsX6_lastOf rm_X6_lastOf (mP D (mTY cI cC cT) [.ref h0, .int p0] (List.flatten [(W_M cI cC cT h0 h1 h2 h3 h4 h5 h6 h7 h8 h9 h10 hlg tk fx xl xp rmn hdn few mst fal al sv hi sn ch my kp tx rd wy)]) sz) (mQi D (mTY cI cC cT) out (va_A (List.flatten [(W_M cI cC cT h0 h1 h2 h3 h4 h5 h6 h7 h8 h9 h10 hlg tk fx xl xp rmn hdn few mst fal al sv hi sn ch my kp tx rd wy)]) sz) (List.flatten [(W_M cI cC cT h0 h1 h2 h3 h4 h5 h6 h7 h8 h9 h10 hlg tk fx xl xp rmn hdn few mst fal al sv hi sn ch my kp tx rd wy)])) 0 0 (va_A (List.flatten [(W_M cI cC cT h0 h1 h2 h3 h4 h5 h6 h7 h8 h9 h10 hlg tk fx xl xp rmn hdn few mst fal al sv hi sn ch my kp tx rd wy)]) sz) := by
  refine mEnt (cc := cX6_lastOf) (maxL := 4) (ret := (some .int)) (own := RX6) (Qq := fun A => mQi D (mTY cI cC cT) out A (List.flatten [(W_M cI cC cT h0 h1 h2 h3 h4 h5 h6 h7 h8 h9 h10 hlg tk fx xl xp rmn hdn few mst fal al sv hi sn ch my kp tx rd wy)])) (by decide) rfl rfl (Nat.le_of_ble_eq_true rfl) ?_
  intro p e s m below meth c A ls H locs hx hb hr hml hlocks hown hts hN hA hP hK hD hS hl
  have hin_X6 : ∀ w ∈ u_ws RX6 TX6 20, w ∈ wsX6_lastOf := by decide +kernel
  have fl_7 := hts (.fieldLink RX6 7 "SureMendingsModel" "all" "[I") (by decide +kernel)
  have hl : lv_has ls 4 [(0, .ref h0), (1, .int p0)] := hl
  unfold f_X6_lastOf at hf
  refine lv_bipush (v := -5) hx hb dX6_lastOf_0 (by decide) ?_
  refine lv_istore_n (lv' := [(2, .int (-5)), (0, .ref h0), (1, .int p0)]) hx hb dX6_lastOf_2 rfl hl (by decide) rfl (fun ls hl => ?_)
  refine lv_iconst (v := 0) hx hb dX6_lastOf_3 (by decide) ?_
  refine lv_istore_n (lv' := [(3, .int 0), (2, .int (-5)), (0, .ref h0), (1, .int p0)]) hx hb dX6_lastOf_4 rfl hl (by decide) rfl (fun ls hl => ?_)
  have LP_3 : ∀ (n_3 : Nat) (v2_1 : Int32) (v3_2 : Int32), iter n_3 (b_X6_lastOf_1 al p0) ((v2_1, v3_2)) = some out → ∀ (H : Heap) (locs : List Loc), va_P D vwCl (List.flatten [(W_M cI cC cT h0 h1 h2 h3 h4 h5 h6 h7 h8 h9 h10 hlg tk fx xl xp rmn hdn few mst fal al sv hi sn ch my kp tx rd wy)]) H → va_D A (List.flatten [(W_M cI cC cT h0 h1 h2 h3 h4 h5 h6 h7 h8 h9 h10 hlg tk fx xl xp rmn hdn few mst fal al sv hi sn ch my kp tx rd wy)]) → va_S A s.heap H locs → ∀ (ls : Array Slot), lv_has ls 4 [(0, .ref h0), (1, .int p0), (2, .int v2_1), (3, .int v3_2)] → W p l e rm_X6_lastOf s m ([.ref h0, .int p0] : List Value).toArray below meth c H locs 0 0 (MQ below (mQi D (mTY cI cC cT) out A (List.flatten [(W_M cI cC cT h0 h1 h2 h3 h4 h5 h6 h7 h8 h9 h10 hlg tk fx xl xp rmn hdn few mst fal al sv hi sn ch my kp tx rd wy)])) ([.ref h0, .int p0] : List Value).toArray s 0 0 A) (F0 m 5 ls []) := by
    intro n_3
    induction n_3 with
    | zero => intro v2_1 v3_2 hf; exact (iter_zero hf).elim
    | succ n_3 ih_3 =>
      intro v2_1 v3_2 hf H locs hP hD hS ls hl
      obtain ⟨o_3, hf, ho_3⟩ := iter_succ hf
      dsimp only [b_X6_lastOf_1] at hf
      refine lv_iload_n hx hb dX6_lastOf_5 rfl (lv_at hl 3 rfl) ?_
      refine lv_aload_n hx hb dX6_lastOf_6 rfl (lv_at hl 0 rfl) ?_
      refine va_get (D := D) (ci := 6) (v := .ref h1) (C := RX6) (T := TX6) (N := 20) hx hb hts hin_X6 hown hK hP 0 rfl rfl 0 (by decide) fl_7 (fun _ h9 => h9) rfl dX6_lastOf_7 ?_
      refine lv_iconst (v := 0) hx hb dX6_lastOf_10 (by decide) ?_
      refine va_iald hx hb hK hP 1 0 rfl rfl (i := 0) (by unfold vp_in; decide) dX6_lastOf_11 ?_
      refine lv_tope (y := al 0) rfl ?_
      refine lv_icmp_ge (tgt := 37) hx hb dX6_lastOf_12 (by decide) (fun c_4 => ?_) (fun c_4 => ?_)
      · have hf := ite_t hf c_4
        refine lv_iload_n hx hb dX6_lastOf_37 rfl (lv_at hl 2 rfl) ?_
        cases hf
        have hf := ho_3.2 _ rfl
        cases hf
        exact mIret hx hb hr hlocks hP hD hK hS dX6_lastOf_38
      · have hf := ite_f hf c_4
        refine lv_aload_n hx hb dX6_lastOf_15 rfl (lv_at hl 0 rfl) ?_
        refine lv_iload_n hx hb dX6_lastOf_16 rfl (lv_at hl 3 rfl) ?_
        refine lv_iconst (v := 0) hx hb dX6_lastOf_17 (by decide) ?_
        obtain ⟨r_5, q_6, hf⟩ := bnd hf
        refine mGoiS (segs := [(W_M cI cC cT h0 h1 h2 h3 h4 h5 h6 h7 h8 h9 h10 hlg tk fx xl xp rmn hdn few mst fal al sv hi sn ch my kp tx rd wy)]) (wcs := [(W_M cI cC cT h0 h1 h2 h3 h4 h5 h6 h7 h8 h9 h10 hlg tk fx xl xp rmn hdn few mst fal al sv hi sn ch my kp tx rd wy)]) (w1s := [(W_M cI cC cT h0 h1 h2 h3 h4 h5 h6 h7 h8 h9 h10 hlg tk fx xl xp rmn hdn few mst fal al sv hi sn ch my kp tx rd wy)]) (w2s := [(W_M cI cC cT h0 h1 h2 h3 h4 h5 h6 h7 h8 h9 h10 hlg tk fx xl xp rmn hdn few mst fal al sv hi sn ch my kp tx rd wy)]) rfl rfl (va_runV (As := [.int v3_2, .int 0]) (rest := []) ⟨hx, hb, hml, hown, hts⟩ (c_X6_of l D cI cC cT h0 h1 h2 h3 h4 h5 h6 h7 h8 h9 h10 hlg tk fx xl xp rmn hdn few mst fal al sv hi sn ch my kp tx rd wy H.size v3_2 0 r_5 q_6) (cwV 2 hts gX6_lastOf_X6_of rfl rfl rfl (by decide +kernel) ⟨Nat.le_of_ble_eq_true rfl, Nat.le_of_ble_eq_true rfl⟩) (mPreVS [(W_M cI cC cT h0 h1 h2 h3 h4 h5 h6 h7 h8 h9 h10 hlg tk fx xl xp rmn hdn few mst fal al sv hi sn ch my kp tx rd wy)] rfl hP hD hK hN [0] rfl (by decide) (va_recv hK (sP hP 0 rfl) (ci := 6) (q0 := 0) rfl rfl)) rfl rfl hl.1 rfl (lv_room (Nat.le_of_ble_eq_true rfl)) dX6_lastOf_18 ⟨Nat.zero_le _, Nat.zero_le _⟩) hP hD hS hA [0] rfl rfl rfl rfl (fun H locs hP hD hS => ?_)
        refine lv_iload_n hx hb dX6_lastOf_21 rfl (lv_at hl 1 rfl) ?_
        obtain ⟨x_7, q_9, hf⟩ := bnd hf
        have K_8 : ∀ (H : Heap) (locs : List Loc), va_P D vwCl (List.flatten [(W_M cI cC cT h0 h1 h2 h3 h4 h5 h6 h7 h8 h9 h10 hlg tk fx xl xp rmn hdn few mst fal al sv hi sn ch my kp tx rd wy)]) H → va_D A (List.flatten [(W_M cI cC cT h0 h1 h2 h3 h4 h5 h6 h7 h8 h9 h10 hlg tk fx xl xp rmn hdn few mst fal al sv hi sn ch my kp tx rd wy)]) → va_S A s.heap H locs → ∀ (ls : Array Slot), lv_has ls 4 [(0, .ref h0), (1, .int p0), (3, .int v3_2)] → W p l e rm_X6_lastOf s m ([.ref h0, .int p0] : List Value).toArray below meth c H locs 0 0 (MQ below (mQi D (mTY cI cC cT) out A (List.flatten [(W_M cI cC cT h0 h1 h2 h3 h4 h5 h6 h7 h8 h9 h10 hlg tk fx xl xp rmn hdn few mst fal al sv hi sn ch my kp tx rd wy)])) ([.ref h0, .int p0] : List Value).toArray s 0 0 A) (F0 m 30 ls [.int x_7]) := by
          intro H locs hP hD hS ls hl
          refine lv_istore_n (lv' := [(2, .int x_7), (0, .ref h0), (1, .int p0), (3, .int v3_2)]) hx hb dX6_lastOf_30 rfl hl (by decide) rfl (fun ls hl => ?_)
          refine lv_iinc (v := v3_2 + 1) (lv' := [(3, .int (v3_2 + 1)), (2, .int x_7), (0, .ref h0), (1, .int p0)]) hx hb dX6_lastOf_31 hl (k := 3) rfl rfl (by decide) rfl (fun ls hl => ?_)
          refine lv_goto (tgt := 5) hx hb dX6_lastOf_34 (by decide) ?_
          cases hf
          have hf := ho_3.1 _ rfl
          exact ih_3 _ _ hf _ _ hP hD hS _ (lv_sub hl [2, 3, 1, 0] rfl)
        have hf := q_9
        refine lv_icmp_ne (tgt := 29) hx hb dX6_lastOf_22 (by decide) (fun c_10 => ?_) (fun c_10 => ?_)
        · have hf := ite_f hf c_10
          refine lv_iload_n hx hb dX6_lastOf_29 rfl (lv_at hl 2 rfl) ?_
          cases hf
          exact K_8 _ _ hP hD hS _ (lv_sub hl [0, 1, 3] rfl)
        · have hf := ite_t hf c_10
          refine lv_iload_n hx hb dX6_lastOf_25 rfl (lv_at hl 3 rfl) ?_
          refine lv_goto (tgt := 30) hx hb dX6_lastOf_26 (by decide) ?_
          cases hf
          exact K_8 _ _ hP hD hS _ (lv_sub hl [0, 1, 3] rfl)
  exact LP_3 _ _ _ hf _ _ hP hD hS _ (lv_sub hl [2, 3, 1, 0] rfl)
abbrev rm_X6_takesOut : Room := { frames := 0, cells := 0, slots := 0, locals := 0 }
set_option maxHeartbeats 4000000 in
set_option maxRecDepth 100000 in
theorem c_X6_takesOut (l : Launch) (D : va_G) (cI cC cT : ClassId) (h0 h1 h2 h3 h4 h5 h6 h7 h8 h9 h10 : Nat) (hlg : Int32) (tk : Int32) (fx : Int32) (xl : Int32) (xp : Int32) (rmn : Int32) (hdn : Int32) (few : Int32) (mst : Int32) (fal : Int32) (al : Nat → Int32) (sv : Nat → Int32) (hi : Nat → Int32) (sn : Nat → Int32) (ch : Nat → Int32) (my : Nat → Int32) (kp : Nat → Int32) (tx : Nat → Int32) (rd : Nat → Int32) (wy : Nat → Int32) (sz : Nat) (p0 : Int32) (o_al : Nat → Int32) (hf : f_X6_takesOut al p0 = some o_al) : Met l yX6_takesOut wsX6_takesOut rm_X6_takesOut (mP D (mTY cI cC cT) [.ref h0, .int p0] (List.flatten [(W_M cI cC cT h0 h1 h2 h3 h4 h5 h6 h7 h8 h9 h10 hlg tk fx xl xp rmn hdn few mst fal al sv hi sn ch my kp tx rd wy)]) sz) (mQv D (mTY cI cC cT) (va_A (List.flatten [(W_M cI cC cT h0 h1 h2 h3 h4 h5 h6 h7 h8 h9 h10 hlg tk fx xl xp rmn hdn few mst fal al sv hi sn ch my kp tx rd wy)]) sz) (List.flatten [(W_M cI cC cT h0 h1 h2 h3 h4 h5 h6 h7 h8 h9 h10 hlg tk fx xl xp rmn hdn few mst fal o_al sv hi sn ch my kp tx rd wy)])) 0 0 (va_A (List.flatten [(W_M cI cC cT h0 h1 h2 h3 h4 h5 h6 h7 h8 h9 h10 hlg tk fx xl xp rmn hdn few mst fal al sv hi sn ch my kp tx rd wy)]) sz) := by
  refine mEnt (cc := cX6_takesOut) (maxL := 3) (ret := none) (own := RX6) (Qq := fun A => mQv D (mTY cI cC cT) A (List.flatten [(W_M cI cC cT h0 h1 h2 h3 h4 h5 h6 h7 h8 h9 h10 hlg tk fx xl xp rmn hdn few mst fal o_al sv hi sn ch my kp tx rd wy)])) (by decide) rfl rfl (Nat.le_of_ble_eq_true rfl) ?_
  intro p e s m below meth c A ls H locs hx hb hr hml hlocks hown hts hN hA hP hK hD hS hl
  have hin_X6 : ∀ w ∈ u_ws RX6 TX6 20, w ∈ wsX6_takesOut := by decide +kernel
  have fl_7 := hts (.fieldLink RX6 7 "SureMendingsModel" "all" "[I") (by decide +kernel)
  have hl : lv_has ls 3 [(0, .ref h0), (1, .int p0)] := hl
  unfold f_X6_takesOut at hf
  refine lv_aload_n hx hb dX6_takesOut_0 rfl (lv_at hl 0 rfl) ?_
  refine va_get (D := D) (ci := 6) (v := .ref h1) (C := RX6) (T := TX6) (N := 20) hx hb hts hin_X6 hown hK hP 0 rfl rfl 0 (by decide) fl_7 (fun _ h9 => h9) rfl dX6_takesOut_1 ?_
  refine lv_iconst (v := 0) hx hb dX6_takesOut_4 (by decide) ?_
  refine lv_dup2_11 hx hb dX6_takesOut_5 rfl rfl ?_
  refine va_iald hx hb hK hP 1 0 rfl rfl (i := 0) (by unfold vp_in; decide) dX6_takesOut_6 ?_
  refine lv_tope (y := al 0) rfl ?_
  refine lv_iconst (v := 1) hx hb dX6_takesOut_7 (by decide) ?_
  refine lv_isub hx hb dX6_takesOut_8 ?_
  refine va_iast hx hb hK hP hD hS 1 0 rfl rfl (i := 0) (by unfold vp_in; decide) dX6_takesOut_9 (fun H locs hP hD hS => ?_)
  have hP : va_P D vwCl (List.flatten [(W_M cI cC cT h0 h1 h2 h3 h4 h5 h6 h7 h8 h9 h10 hlg tk fx xl xp rmn hdn few mst fal (upd al 0 ((al 0) - 1)) sv hi sn ch my kp tx rd wy)]) H := hP
  have hD : va_D A (List.flatten [(W_M cI cC cT h0 h1 h2 h3 h4 h5 h6 h7 h8 h9 h10 hlg tk fx xl xp rmn hdn few mst fal (upd al 0 ((al 0) - 1)) sv hi sn ch my kp tx rd wy)]) := hD
  refine lv_iconst (v := 2) hx hb dX6_takesOut_10 (by decide) ?_
  refine lv_iconst (v := 4) hx hb dX6_takesOut_11 (by decide) ?_
  refine lv_iload_n hx hb dX6_takesOut_12 rfl (lv_at hl 1 rfl) ?_
  refine lv_imul hx hb dX6_takesOut_13 ?_
  refine lv_iadd hx hb dX6_takesOut_14 ?_
  refine lv_istore_n (lv' := [(2, .int (2 + (4 * p0))), (0, .ref h0), (1, .int p0)]) hx hb dX6_takesOut_15 rfl hl (by decide) rfl (fun ls hl => ?_)
  have LP_3 : ∀ (n_3 : Nat) (v2_1 : Int32) (al_2 : Nat → Int32), iter n_3 (b_X6_takesOut_1) ((v2_1, al_2)) = some o_al → ∀ (H : Heap) (locs : List Loc), va_P D vwCl (List.flatten [(W_M cI cC cT h0 h1 h2 h3 h4 h5 h6 h7 h8 h9 h10 hlg tk fx xl xp rmn hdn few mst fal al_2 sv hi sn ch my kp tx rd wy)]) H → va_D A (List.flatten [(W_M cI cC cT h0 h1 h2 h3 h4 h5 h6 h7 h8 h9 h10 hlg tk fx xl xp rmn hdn few mst fal al_2 sv hi sn ch my kp tx rd wy)]) → va_S A s.heap H locs → ∀ (ls : Array Slot), lv_has ls 3 [(0, .ref h0), (2, .int v2_1)] → W p l e rm_X6_takesOut s m ([.ref h0, .int p0] : List Value).toArray below meth c H locs 0 0 (MQ below (mQv D (mTY cI cC cT) A (List.flatten [(W_M cI cC cT h0 h1 h2 h3 h4 h5 h6 h7 h8 h9 h10 hlg tk fx xl xp rmn hdn few mst fal o_al sv hi sn ch my kp tx rd wy)])) ([.ref h0, .int p0] : List Value).toArray s 0 0 A) (F0 m 16 ls []) := by
    intro n_3
    induction n_3 with
    | zero => intro v2_1 al_2 hf; exact (iter_zero hf).elim
    | succ n_3 ih_3 =>
      intro v2_1 al_2 hf H locs hP hD hS ls hl
      obtain ⟨o_3, hf, ho_3⟩ := iter_succ hf
      dsimp only [b_X6_takesOut_1] at hf
      refine lv_iload_n hx hb dX6_takesOut_16 rfl (lv_at hl 1 rfl) ?_
      refine lv_iconst (v := 2) hx hb dX6_takesOut_17 (by decide) ?_
      refine lv_iconst (v := 4) hx hb dX6_takesOut_18 (by decide) ?_
      refine lv_aload_n hx hb dX6_takesOut_19 rfl (lv_at hl 0 rfl) ?_
      refine va_get (D := D) (ci := 6) (v := .ref h1) (C := RX6) (T := TX6) (N := 20) hx hb hts hin_X6 hown hK hP 0 rfl rfl 0 (by decide) fl_7 (fun _ h9 => h9) rfl dX6_takesOut_20 ?_
      refine lv_iconst (v := 0) hx hb dX6_takesOut_23 (by decide) ?_
      refine va_iald hx hb hK hP 1 0 rfl rfl (i := 0) (by unfold vp_in; decide) dX6_takesOut_24 ?_
      refine lv_tope (y := al_2 0) rfl ?_
      refine lv_imul hx hb dX6_takesOut_25 ?_
      refine lv_iadd hx hb dX6_takesOut_26 ?_
      refine lv_icmp_ge (tgt := 50) hx hb dX6_takesOut_27 (by decide) (fun c_4 => ?_) (fun c_4 => ?_)
      · have hf := ite_t hf c_4
        cases hf
        have hf := ho_3.2 _ rfl
        cases hf
        exact mVret hx hb hr hlocks hP hD hK hS dX6_takesOut_50
      · have hf := ite_f hf c_4
        refine lv_aload_n hx hb dX6_takesOut_30 rfl (lv_at hl 0 rfl) ?_
        refine va_get (D := D) (ci := 6) (v := .ref h1) (C := RX6) (T := TX6) (N := 20) hx hb hts hin_X6 hown hK hP 0 rfl rfl 0 (by decide) fl_7 (fun _ h9 => h9) rfl dX6_takesOut_31 ?_
        refine lv_iload_n hx hb dX6_takesOut_34 rfl (lv_at hl 1 rfl) ?_
        refine lv_aload_n hx hb dX6_takesOut_35 rfl (lv_at hl 0 rfl) ?_
        refine va_get (D := D) (ci := 6) (v := .ref h1) (C := RX6) (T := TX6) (N := 20) hx hb hts hin_X6 hown hK hP 0 rfl rfl 0 (by decide) fl_7 (fun _ h9 => h9) rfl dX6_takesOut_36 ?_
        refine lv_iload_n hx hb dX6_takesOut_39 rfl (lv_at hl 1 rfl) ?_
        refine lv_iconst (v := 4) hx hb dX6_takesOut_40 (by decide) ?_
        refine lv_iadd hx hb dX6_takesOut_41 ?_
        obtain ⟨h_5, hf⟩ := grd hf
        refine va_iald hx hb hK hP 1 0 rfl rfl h_5 dX6_takesOut_42 ?_
        obtain ⟨h_6, hf⟩ := grd hf
        refine va_iast hx hb hK hP hD hS 1 0 rfl rfl h_6 dX6_takesOut_43 (fun H locs hP hD hS => ?_)
        have hP : va_P D vwCl (List.flatten [(W_M cI cC cT h0 h1 h2 h3 h4 h5 h6 h7 h8 h9 h10 hlg tk fx xl xp rmn hdn few mst fal (upd al_2 v2_1.toNatClampNeg (al_2 (v2_1 + 4).toNatClampNeg)) sv hi sn ch my kp tx rd wy)]) H := hP
        have hD : va_D A (List.flatten [(W_M cI cC cT h0 h1 h2 h3 h4 h5 h6 h7 h8 h9 h10 hlg tk fx xl xp rmn hdn few mst fal (upd al_2 v2_1.toNatClampNeg (al_2 (v2_1 + 4).toNatClampNeg)) sv hi sn ch my kp tx rd wy)]) := hD
        refine lv_iinc (v := v2_1 + 1) (lv' := [(2, .int (v2_1 + 1)), (0, .ref h0)]) hx hb dX6_takesOut_44 hl (k := 1) rfl rfl (by decide) rfl (fun ls hl => ?_)
        refine lv_goto (tgt := 16) hx hb dX6_takesOut_47 (by decide) ?_
        cases hf
        have hf := ho_3.1 _ rfl
        exact ih_3 _ _ hf _ _ hP hD hS _ (lv_sub hl [1, 0] rfl)
  exact LP_3 _ _ _ hf _ _ hP hD hS _ (lv_sub hl [1, 0] rfl)
abbrev rm_X6_mends : Room := { frames := 1, cells := 0, slots := 0, locals := 22 }
set_option maxHeartbeats 4000000 in
set_option maxRecDepth 100000 in
theorem c_X6_mends (l : Launch) (D : va_G) (cI cC cT : ClassId) (h0 h1 h2 h3 h4 h5 h6 h7 h8 h9 h10 : Nat) (hlg : Int32) (tk : Int32) (fx : Int32) (xl : Int32) (xp : Int32) (rmn : Int32) (hdn : Int32) (few : Int32) (mst : Int32) (fal : Int32) (al : Nat → Int32) (sv : Nat → Int32) (hi : Nat → Int32) (sn : Nat → Int32) (ch : Nat → Int32) (my : Nat → Int32) (kp : Nat → Int32) (tx : Nat → Int32) (rd : Nat → Int32) (wy : Nat → Int32) (sz : Nat) (p0 : Int32) (out : Int32) (o_al : Nat → Int32) (hf : f_X6_mends al p0 = some ((out, o_al))) : Met l yX6_mends wsX6_mends rm_X6_mends (mP D (mTY cI cC cT) [.ref h0, .int p0] (List.flatten [(W_M cI cC cT h0 h1 h2 h3 h4 h5 h6 h7 h8 h9 h10 hlg tk fx xl xp rmn hdn few mst fal al sv hi sn ch my kp tx rd wy)]) sz) (mQi D (mTY cI cC cT) out (va_A (List.flatten [(W_M cI cC cT h0 h1 h2 h3 h4 h5 h6 h7 h8 h9 h10 hlg tk fx xl xp rmn hdn few mst fal al sv hi sn ch my kp tx rd wy)]) sz) (List.flatten [(W_M cI cC cT h0 h1 h2 h3 h4 h5 h6 h7 h8 h9 h10 hlg tk fx xl xp rmn hdn few mst fal o_al sv hi sn ch my kp tx rd wy)])) 0 0 (va_A (List.flatten [(W_M cI cC cT h0 h1 h2 h3 h4 h5 h6 h7 h8 h9 h10 hlg tk fx xl xp rmn hdn few mst fal al sv hi sn ch my kp tx rd wy)]) sz) := by
  refine mEnt (cc := cX6_mends) (maxL := 5) (ret := (some .int)) (own := RX6) (Qq := fun A => mQi D (mTY cI cC cT) out A (List.flatten [(W_M cI cC cT h0 h1 h2 h3 h4 h5 h6 h7 h8 h9 h10 hlg tk fx xl xp rmn hdn few mst fal o_al sv hi sn ch my kp tx rd wy)])) (by decide) rfl rfl (Nat.le_of_ble_eq_true rfl) ?_
  intro p e s m below meth c A ls H locs hx hb hr hml hlocks hown hts hN hA hP hK hD hS hl
  have hin_X6 : ∀ w ∈ u_ws RX6 TX6 20, w ∈ wsX6_mends := by decide +kernel
  have fl_7 := hts (.fieldLink RX6 7 "SureMendingsModel" "all" "[I") (by decide +kernel)
  have hl : lv_has ls 5 [(0, .ref h0), (1, .int p0)] := hl
  unfold f_X6_mends at hf
  refine lv_aload_n hx hb dX6_mends_0 rfl (lv_at hl 0 rfl) ?_
  refine lv_iload_n hx hb dX6_mends_1 rfl (lv_at hl 1 rfl) ?_
  refine lv_iconst (v := 0) hx hb dX6_mends_2 (by decide) ?_
  obtain ⟨r_1, q_2, hf⟩ := bnd hf
  refine mGoiS (segs := [(W_M cI cC cT h0 h1 h2 h3 h4 h5 h6 h7 h8 h9 h10 hlg tk fx xl xp rmn hdn few mst fal al sv hi sn ch my kp tx rd wy)]) (wcs := [(W_M cI cC cT h0 h1 h2 h3 h4 h5 h6 h7 h8 h9 h10 hlg tk fx xl xp rmn hdn few mst fal al sv hi sn ch my kp tx rd wy)]) (w1s := [(W_M cI cC cT h0 h1 h2 h3 h4 h5 h6 h7 h8 h9 h10 hlg tk fx xl xp rmn hdn few mst fal al sv hi sn ch my kp tx rd wy)]) (w2s := [(W_M cI cC cT h0 h1 h2 h3 h4 h5 h6 h7 h8 h9 h10 hlg tk fx xl xp rmn hdn few mst fal al sv hi sn ch my kp tx rd wy)]) rfl rfl (va_runV (As := [.int p0, .int 0]) (rest := []) ⟨hx, hb, hml, hown, hts⟩ (c_X6_of l D cI cC cT h0 h1 h2 h3 h4 h5 h6 h7 h8 h9 h10 hlg tk fx xl xp rmn hdn few mst fal al sv hi sn ch my kp tx rd wy H.size p0 0 r_1 q_2) (cwV 2 hts gX6_mends_X6_of rfl rfl rfl (by decide +kernel) ⟨Nat.le_of_ble_eq_true rfl, Nat.le_of_ble_eq_true rfl⟩) (mPreVS [(W_M cI cC cT h0 h1 h2 h3 h4 h5 h6 h7 h8 h9 h10 hlg tk fx xl xp rmn hdn few mst fal al sv hi sn ch my kp tx rd wy)] rfl hP hD hK hN [0] rfl (by decide) (va_recv hK (sP hP 0 rfl) (ci := 6) (q0 := 0) rfl rfl)) rfl rfl hl.1 rfl (lv_room (Nat.le_of_ble_eq_true rfl)) dX6_mends_3 ⟨Nat.zero_le _, Nat.zero_le _⟩) hP hD hS hA [0] rfl rfl rfl rfl (fun H locs hP hD hS => ?_)
  refine lv_istore_n (lv' := [(2, .int r_1), (0, .ref h0), (1, .int p0)]) hx hb dX6_mends_6 rfl hl (by decide) rfl (fun ls hl => ?_)
  refine lv_iconst (v := 0) hx hb dX6_mends_7 (by decide) ?_
  refine lv_istore_n (lv' := [(3, .int 0), (2, .int r_1), (0, .ref h0), (1, .int p0)]) hx hb dX6_mends_8 rfl hl (by decide) rfl (fun ls hl => ?_)
  refine lv_aload_n hx hb dX6_mends_9 rfl (lv_at hl 2 rfl) ?_
  refine va_get (D := D) (ci := 6) (v := .ref h1) (C := RX6) (T := TX6) (N := 20) hx hb hts hin_X6 hown hK hP 0 rfl rfl 0 (by decide) fl_7 (fun _ h9 => h9) rfl dX6_mends_10 ?_
  refine lv_iconst (v := 0) hx hb dX6_mends_13 (by decide) ?_
  refine va_iald hx hb hK hP 1 0 rfl rfl (i := 0) (by unfold vp_in; decide) dX6_mends_14 ?_
  refine lv_tope (y := al 0) rfl ?_
  refine lv_iconst (v := 1) hx hb dX6_mends_15 (by decide) ?_
  refine lv_isub hx hb dX6_mends_16 ?_
  refine lv_istore (lv' := [(4, .int ((al 0) - 1)), (3, .int 0), (2, .int r_1), (0, .ref h0), (1, .int p0)]) hx hb dX6_mends_17 hl (by decide) rfl (fun ls hl => ?_)
  have LP_6 : ∀ (n_6 : Nat) (v3_3 : Int32) (v4_4 : Int32) (al_5 : Nat → Int32), iter n_6 (b_X6_mends_1 p0 r_1) ((v3_3, v4_4, al_5)) = some ((out, o_al)) → ∀ (H : Heap) (locs : List Loc), va_P D vwCl (List.flatten [(W_M cI cC cT h0 h1 h2 h3 h4 h5 h6 h7 h8 h9 h10 hlg tk fx xl xp rmn hdn few mst fal al_5 sv hi sn ch my kp tx rd wy)]) H → va_D A (List.flatten [(W_M cI cC cT h0 h1 h2 h3 h4 h5 h6 h7 h8 h9 h10 hlg tk fx xl xp rmn hdn few mst fal al_5 sv hi sn ch my kp tx rd wy)]) → va_S A s.heap H locs → ∀ (ls : Array Slot), lv_has ls 5 [(0, .ref h0), (1, .int p0), (2, .int r_1), (3, .int v3_3), (4, .int v4_4)] → W p l e rm_X6_mends s m ([.ref h0, .int p0] : List Value).toArray below meth c H locs 0 0 (MQ below (mQi D (mTY cI cC cT) out A (List.flatten [(W_M cI cC cT h0 h1 h2 h3 h4 h5 h6 h7 h8 h9 h10 hlg tk fx xl xp rmn hdn few mst fal o_al sv hi sn ch my kp tx rd wy)])) ([.ref h0, .int p0] : List Value).toArray s 0 0 A) (F0 m 19 ls []) := by
    intro n_6
    induction n_6 with
    | zero => intro v3_3 v4_4 al_5 hf; exact (iter_zero hf).elim
    | succ n_6 ih_6 =>
      intro v3_3 v4_4 al_5 hf H locs hP hD hS ls hl
      obtain ⟨o_6, hf, ho_6⟩ := iter_succ hf
      dsimp only [b_X6_mends_1] at hf
      refine lv_iload hx hb dX6_mends_19 (lv_at hl 4 rfl) ?_
      refine lv_if_lt (tgt := 56) hx hb dX6_mends_21 (by decide) (fun c_7 => ?_) (fun c_7 => ?_)
      · have hf := ite_t hf c_7
        refine lv_iload_n hx hb dX6_mends_56 rfl (lv_at hl 3 rfl) ?_
        cases hf
        have hf := ho_6.2 _ rfl
        cases hf
        exact mIret hx hb hr hlocks hP hD hK hS dX6_mends_57
      · have hf := ite_f hf c_7
        refine lv_iload hx hb dX6_mends_24 (lv_at hl 4 rfl) ?_
        refine lv_iload_n hx hb dX6_mends_26 rfl (lv_at hl 1 rfl) ?_
        obtain ⟨⟨x_8, al_9⟩, q_11, hf⟩ := bnd hf
        have K_10 : ∀ (H : Heap) (locs : List Loc), va_P D vwCl (List.flatten [(W_M cI cC cT h0 h1 h2 h3 h4 h5 h6 h7 h8 h9 h10 hlg tk fx xl xp rmn hdn few mst fal al_9 sv hi sn ch my kp tx rd wy)]) H → va_D A (List.flatten [(W_M cI cC cT h0 h1 h2 h3 h4 h5 h6 h7 h8 h9 h10 hlg tk fx xl xp rmn hdn few mst fal al_9 sv hi sn ch my kp tx rd wy)]) → va_S A s.heap H locs → ∀ (ls : Array Slot), lv_has ls 5 [(0, .ref h0), (1, .int p0), (2, .int r_1), (3, .int x_8), (4, .int v4_4)] → W p l e rm_X6_mends s m ([.ref h0, .int p0] : List Value).toArray below meth c H locs 0 0 (MQ below (mQi D (mTY cI cC cT) out A (List.flatten [(W_M cI cC cT h0 h1 h2 h3 h4 h5 h6 h7 h8 h9 h10 hlg tk fx xl xp rmn hdn few mst fal o_al sv hi sn ch my kp tx rd wy)])) ([.ref h0, .int p0] : List Value).toArray s 0 0 A) (F0 m 50 ls []) := by
          intro H locs hP hD hS ls hl
          refine lv_iinc (v := v4_4 + (-1)) (lv' := [(4, .int (v4_4 + (-1))), (0, .ref h0), (1, .int p0), (2, .int r_1), (3, .int x_8)]) hx hb dX6_mends_50 hl (k := 4) rfl rfl (by decide) rfl (fun ls hl => ?_)
          refine lv_goto (tgt := 19) hx hb dX6_mends_53 (by decide) ?_
          cases hf
          have hf := ho_6.1 _ rfl
          exact ih_6 _ _ _ hf _ _ hP hD hS _ (lv_sub hl [1, 2, 3, 4, 0] rfl)
        have hf := q_11
        refine lv_icmp_eq (tgt := 50) hx hb dX6_mends_27 (by decide) (fun c_12 => ?_) (fun c_12 => ?_)
        · have hf := ite_t hf c_12
          cases hf
          exact K_10 _ _ hP hD hS _ (lv_sub hl [0, 1, 2, 3, 4] rfl)
        · have hf := ite_f hf c_12
          refine lv_aload_n hx hb dX6_mends_30 rfl (lv_at hl 0 rfl) ?_
          refine lv_iload hx hb dX6_mends_31 (lv_at hl 4 rfl) ?_
          refine lv_iconst (v := 0) hx hb dX6_mends_33 (by decide) ?_
          obtain ⟨r_13, q_14, hf⟩ := bnd hf
          refine mGoiS (segs := [(W_M cI cC cT h0 h1 h2 h3 h4 h5 h6 h7 h8 h9 h10 hlg tk fx xl xp rmn hdn few mst fal al_5 sv hi sn ch my kp tx rd wy)]) (wcs := [(W_M cI cC cT h0 h1 h2 h3 h4 h5 h6 h7 h8 h9 h10 hlg tk fx xl xp rmn hdn few mst fal al_5 sv hi sn ch my kp tx rd wy)]) (w1s := [(W_M cI cC cT h0 h1 h2 h3 h4 h5 h6 h7 h8 h9 h10 hlg tk fx xl xp rmn hdn few mst fal al_5 sv hi sn ch my kp tx rd wy)]) (w2s := [(W_M cI cC cT h0 h1 h2 h3 h4 h5 h6 h7 h8 h9 h10 hlg tk fx xl xp rmn hdn few mst fal al_5 sv hi sn ch my kp tx rd wy)]) rfl rfl (va_runV (As := [.int v4_4, .int 0]) (rest := []) ⟨hx, hb, hml, hown, hts⟩ (c_X6_of l D cI cC cT h0 h1 h2 h3 h4 h5 h6 h7 h8 h9 h10 hlg tk fx xl xp rmn hdn few mst fal al_5 sv hi sn ch my kp tx rd wy H.size v4_4 0 r_13 q_14) (cwV 2 hts gX6_mends_X6_of rfl rfl rfl (by decide +kernel) ⟨Nat.le_of_ble_eq_true rfl, Nat.le_of_ble_eq_true rfl⟩) (mPreVS [(W_M cI cC cT h0 h1 h2 h3 h4 h5 h6 h7 h8 h9 h10 hlg tk fx xl xp rmn hdn few mst fal al_5 sv hi sn ch my kp tx rd wy)] rfl hP hD hK hN [0] rfl (by decide) (va_recv hK (sP hP 0 rfl) (ci := 6) (q0 := 0) rfl rfl)) rfl rfl hl.1 rfl (lv_room (Nat.le_of_ble_eq_true rfl)) dX6_mends_34 ⟨Nat.zero_le _, Nat.zero_le _⟩) hP hD hS hA [0] rfl rfl rfl rfl (fun H locs hP hD hS => ?_)
          refine lv_iload_n hx hb dX6_mends_37 rfl (lv_at hl 2 rfl) ?_
          refine lv_icmp_ne (tgt := 50) hx hb dX6_mends_38 (by decide) (fun c_15 => ?_) (fun c_15 => ?_)
          · have hf := ite_f hf c_15
            cases hf
            exact K_10 _ _ hP hD hS _ (lv_sub hl [0, 1, 2, 3, 4] rfl)
          · have hf := ite_t hf c_15
            refine lv_aload_n hx hb dX6_mends_41 rfl (lv_at hl 0 rfl) ?_
            refine lv_iload hx hb dX6_mends_42 (lv_at hl 4 rfl) ?_
            obtain ⟨al_16, q_17, hf⟩ := bnd hf
            refine mGovS (segs := [(W_M cI cC cT h0 h1 h2 h3 h4 h5 h6 h7 h8 h9 h10 hlg tk fx xl xp rmn hdn few mst fal al_5 sv hi sn ch my kp tx rd wy)]) (wcs := [(W_M cI cC cT h0 h1 h2 h3 h4 h5 h6 h7 h8 h9 h10 hlg tk fx xl xp rmn hdn few mst fal al_5 sv hi sn ch my kp tx rd wy)]) (w1s := [(W_M cI cC cT h0 h1 h2 h3 h4 h5 h6 h7 h8 h9 h10 hlg tk fx xl xp rmn hdn few mst fal al_16 sv hi sn ch my kp tx rd wy)]) (w2s := [(W_M cI cC cT h0 h1 h2 h3 h4 h5 h6 h7 h8 h9 h10 hlg tk fx xl xp rmn hdn few mst fal al_16 sv hi sn ch my kp tx rd wy)]) rfl rfl (va_runV (As := [.int v4_4]) (rest := []) ⟨hx, hb, hml, hown, hts⟩ (c_X6_takesOut l D cI cC cT h0 h1 h2 h3 h4 h5 h6 h7 h8 h9 h10 hlg tk fx xl xp rmn hdn few mst fal al_5 sv hi sn ch my kp tx rd wy H.size v4_4 al_16 q_17) (cwV 1 hts gX6_mends_X6_takesOut rfl rfl rfl (by decide +kernel) ⟨Nat.le_of_ble_eq_true rfl, Nat.le_of_ble_eq_true rfl⟩) (mPreVS [(W_M cI cC cT h0 h1 h2 h3 h4 h5 h6 h7 h8 h9 h10 hlg tk fx xl xp rmn hdn few mst fal al_5 sv hi sn ch my kp tx rd wy)] rfl hP hD hK hN [0] rfl (by decide) (va_recv hK (sP hP 0 rfl) (ci := 6) (q0 := 0) rfl rfl)) rfl rfl hl.1 rfl (lv_room (Nat.le_of_ble_eq_true rfl)) dX6_mends_44 ⟨Nat.zero_le _, Nat.zero_le _⟩) hP hD hS hA [0] rfl rfl rfl rfl (fun H locs hP hD hS => ?_)
            refine lv_iinc (v := v3_3 + 1) (lv' := [(3, .int (v3_3 + 1)), (0, .ref h0), (1, .int p0), (2, .int r_1), (4, .int v4_4)]) hx hb dX6_mends_47 hl (k := 3) rfl rfl (by decide) rfl (fun ls hl => ?_)
            cases hf
            exact K_10 _ _ hP hD hS _ (lv_sub hl [1, 2, 3, 0, 4] rfl)
  exact LP_6 _ _ _ _ hf _ _ hP hD hS _ (lv_sub hl [3, 4, 2, 1, 0] rfl)
abbrev rm_X6_mend : Room := { frames := 2, cells := 0, slots := 0, locals := 46 }
set_option maxHeartbeats 4000000 in
set_option maxRecDepth 100000 in
theorem c_X6_mend (l : Launch) (D : va_G) (cI cC cT : ClassId) (h0 h1 h2 h3 h4 h5 h6 h7 h8 h9 h10 : Nat) (hlg : Int32) (tk : Int32) (fx : Int32) (xl : Int32) (xp : Int32) (rmn : Int32) (hdn : Int32) (few : Int32) (mst : Int32) (fal : Int32) (al : Nat → Int32) (sv : Nat → Int32) (hi : Nat → Int32) (sn : Nat → Int32) (ch : Nat → Int32) (my : Nat → Int32) (kp : Nat → Int32) (tx : Nat → Int32) (rd : Nat → Int32) (wy : Nat → Int32) (sz : Nat) (p0 : Int32) (out : Int32) (o_hlg : Int32) (o_al : Nat → Int32) (o_sv : Nat → Int32) (o_hi : Nat → Int32) (hf : f_X6_mend hlg al sv hi p0 = some ((out, o_hlg, o_al, o_sv, o_hi))) : Met l yX6_mend wsX6_mend rm_X6_mend (mP D (mTY cI cC cT) [.ref h0, .int p0] (List.flatten [(W_M cI cC cT h0 h1 h2 h3 h4 h5 h6 h7 h8 h9 h10 hlg tk fx xl xp rmn hdn few mst fal al sv hi sn ch my kp tx rd wy)]) sz) (mQi D (mTY cI cC cT) out (va_A (List.flatten [(W_M cI cC cT h0 h1 h2 h3 h4 h5 h6 h7 h8 h9 h10 hlg tk fx xl xp rmn hdn few mst fal al sv hi sn ch my kp tx rd wy)]) sz) (List.flatten [(W_M cI cC cT h0 h1 h2 h3 h4 h5 h6 h7 h8 h9 h10 o_hlg tk fx xl xp rmn hdn few mst fal o_al o_sv o_hi sn ch my kp tx rd wy)])) 0 0 (va_A (List.flatten [(W_M cI cC cT h0 h1 h2 h3 h4 h5 h6 h7 h8 h9 h10 hlg tk fx xl xp rmn hdn few mst fal al sv hi sn ch my kp tx rd wy)]) sz) := by
  refine mEnt (cc := cX6_mend) (maxL := 3) (ret := (some .int)) (own := RX6) (Qq := fun A => mQi D (mTY cI cC cT) out A (List.flatten [(W_M cI cC cT h0 h1 h2 h3 h4 h5 h6 h7 h8 h9 h10 o_hlg tk fx xl xp rmn hdn few mst fal o_al o_sv o_hi sn ch my kp tx rd wy)])) (by decide) rfl rfl (Nat.le_of_ble_eq_true rfl) ?_
  intro p e s m below meth c A ls H locs hx hb hr hml hlocks hown hts hN hA hP hK hD hS hl
  have hl : lv_has ls 3 [(0, .ref h0), (1, .int p0)] := hl
  unfold f_X6_mend at hf
  refine lv_aload_n hx hb dX6_mend_0 rfl (lv_at hl 0 rfl) ?_
  refine lv_iload_n hx hb dX6_mend_1 rfl (lv_at hl 1 rfl) ?_
  obtain ⟨r_1, q_2, hf⟩ := bnd hf
  refine mGoiS (segs := [(W_M cI cC cT h0 h1 h2 h3 h4 h5 h6 h7 h8 h9 h10 hlg tk fx xl xp rmn hdn few mst fal al sv hi sn ch my kp tx rd wy)]) (wcs := [(W_M cI cC cT h0 h1 h2 h3 h4 h5 h6 h7 h8 h9 h10 hlg tk fx xl xp rmn hdn few mst fal al sv hi sn ch my kp tx rd wy)]) (w1s := [(W_M cI cC cT h0 h1 h2 h3 h4 h5 h6 h7 h8 h9 h10 hlg tk fx xl xp rmn hdn few mst fal al sv hi sn ch my kp tx rd wy)]) (w2s := [(W_M cI cC cT h0 h1 h2 h3 h4 h5 h6 h7 h8 h9 h10 hlg tk fx xl xp rmn hdn few mst fal al sv hi sn ch my kp tx rd wy)]) rfl rfl (va_runV (As := [.int p0]) (rest := []) ⟨hx, hb, hml, hown, hts⟩ (c_X6_isRow l D cI cC cT h0 h1 h2 h3 h4 h5 h6 h7 h8 h9 h10 hlg tk fx xl xp rmn hdn few mst fal al sv hi sn ch my kp tx rd wy H.size p0 r_1 q_2) (cwV 1 hts gX6_mend_X6_isRow rfl rfl rfl (by decide +kernel) ⟨Nat.le_of_ble_eq_true rfl, Nat.le_of_ble_eq_true rfl⟩) (mPreVS [(W_M cI cC cT h0 h1 h2 h3 h4 h5 h6 h7 h8 h9 h10 hlg tk fx xl xp rmn hdn few mst fal al sv hi sn ch my kp tx rd wy)] rfl hP hD hK hN [0] rfl (by decide) (va_recv hK (sP hP 0 rfl) (ci := 6) (q0 := 0) rfl rfl)) rfl rfl hl.1 rfl (lv_room (Nat.le_of_ble_eq_true rfl)) dX6_mend_2 ⟨Nat.zero_le _, Nat.zero_le _⟩) hP hD hS hA [0] rfl rfl rfl rfl (fun H locs hP hD hS => ?_)
  refine lv_if_ne (tgt := 10) hx hb dX6_mend_5 (by decide) (fun c_3 => ?_) (fun c_3 => ?_)
  · have hf := ite_f hf c_3
    refine lv_aload_n hx hb dX6_mend_10 rfl (lv_at hl 0 rfl) ?_
    obtain ⟨sv_4, q_5, hf⟩ := bnd hf
    refine mGovS (segs := [(W_M cI cC cT h0 h1 h2 h3 h4 h5 h6 h7 h8 h9 h10 hlg tk fx xl xp rmn hdn few mst fal al sv hi sn ch my kp tx rd wy)]) (wcs := [(W_M cI cC cT h0 h1 h2 h3 h4 h5 h6 h7 h8 h9 h10 hlg tk fx xl xp rmn hdn few mst fal al sv hi sn ch my kp tx rd wy)]) (w1s := [(W_M cI cC cT h0 h1 h2 h3 h4 h5 h6 h7 h8 h9 h10 hlg tk fx xl xp rmn hdn few mst fal al sv_4 hi sn ch my kp tx rd wy)]) (w2s := [(W_M cI cC cT h0 h1 h2 h3 h4 h5 h6 h7 h8 h9 h10 hlg tk fx xl xp rmn hdn few mst fal al sv_4 hi sn ch my kp tx rd wy)]) rfl rfl (va_runV (As := []) (rest := []) ⟨hx, hb, hml, hown, hts⟩ (c_X6_remember l D cI cC cT h0 h1 h2 h3 h4 h5 h6 h7 h8 h9 h10 hlg tk fx xl xp rmn hdn few mst fal al sv hi sn ch my kp tx rd wy H.size sv_4 q_5) (cwV 0 hts gX6_mend_X6_remember rfl rfl rfl (by decide +kernel) ⟨Nat.le_of_ble_eq_true rfl, Nat.le_of_ble_eq_true rfl⟩) (mPreVS [(W_M cI cC cT h0 h1 h2 h3 h4 h5 h6 h7 h8 h9 h10 hlg tk fx xl xp rmn hdn few mst fal al sv hi sn ch my kp tx rd wy)] rfl hP hD hK hN [0] rfl (by decide) (va_recv hK (sP hP 0 rfl) (ci := 6) (q0 := 0) rfl rfl)) rfl rfl hl.1 rfl (lv_room (Nat.le_of_ble_eq_true rfl)) dX6_mend_11 ⟨Nat.zero_le _, Nat.zero_le _⟩) hP hD hS hA [0] rfl rfl rfl rfl (fun H locs hP hD hS => ?_)
    refine lv_aload_n hx hb dX6_mend_14 rfl (lv_at hl 0 rfl) ?_
    refine lv_iload_n hx hb dX6_mend_15 rfl (lv_at hl 1 rfl) ?_
    obtain ⟨⟨r_6, al_7⟩, q_8, hf⟩ := bnd hf
    refine mGoiS (segs := [(W_M cI cC cT h0 h1 h2 h3 h4 h5 h6 h7 h8 h9 h10 hlg tk fx xl xp rmn hdn few mst fal al sv_4 hi sn ch my kp tx rd wy)]) (wcs := [(W_M cI cC cT h0 h1 h2 h3 h4 h5 h6 h7 h8 h9 h10 hlg tk fx xl xp rmn hdn few mst fal al sv_4 hi sn ch my kp tx rd wy)]) (w1s := [(W_M cI cC cT h0 h1 h2 h3 h4 h5 h6 h7 h8 h9 h10 hlg tk fx xl xp rmn hdn few mst fal al_7 sv_4 hi sn ch my kp tx rd wy)]) (w2s := [(W_M cI cC cT h0 h1 h2 h3 h4 h5 h6 h7 h8 h9 h10 hlg tk fx xl xp rmn hdn few mst fal al_7 sv_4 hi sn ch my kp tx rd wy)]) rfl rfl (va_runV (As := [.int p0]) (rest := []) ⟨hx, hb, hml, hown, hts⟩ (c_X6_mends l D cI cC cT h0 h1 h2 h3 h4 h5 h6 h7 h8 h9 h10 hlg tk fx xl xp rmn hdn few mst fal al sv_4 hi sn ch my kp tx rd wy H.size p0 r_6 al_7 q_8) (cwV 1 hts gX6_mend_X6_mends rfl rfl rfl (by decide +kernel) ⟨Nat.le_of_ble_eq_true rfl, Nat.le_of_ble_eq_true rfl⟩) (mPreVS [(W_M cI cC cT h0 h1 h2 h3 h4 h5 h6 h7 h8 h9 h10 hlg tk fx xl xp rmn hdn few mst fal al sv_4 hi sn ch my kp tx rd wy)] rfl hP hD hK hN [0] rfl (by decide) (va_recv hK (sP hP 0 rfl) (ci := 6) (q0 := 0) rfl rfl)) rfl rfl hl.1 rfl (lv_room (Nat.le_of_ble_eq_true rfl)) dX6_mend_16 ⟨Nat.zero_le _, Nat.zero_le _⟩) hP hD hS hA [0] rfl rfl rfl rfl (fun H locs hP hD hS => ?_)
    refine lv_istore_n (lv' := [(2, .int r_6), (0, .ref h0), (1, .int p0)]) hx hb dX6_mend_19 rfl hl (by decide) rfl (fun ls hl => ?_)
    refine lv_iload_n hx hb dX6_mend_20 rfl (lv_at hl 0 rfl) ?_
    refine lv_if_ne (tgt := 29) hx hb dX6_mend_21 (by decide) (fun c_9 => ?_) (fun c_9 => ?_)
    · have hf := ite_f hf c_9
      refine lv_aload_n hx hb dX6_mend_29 rfl (lv_at hl 1 rfl) ?_
      refine lv_iload_n hx hb dX6_mend_30 rfl (lv_at hl 0 rfl) ?_
      obtain ⟨⟨r_10, hlg_11, hi_12⟩, q_13, hf⟩ := bnd hf
      refine mGoiS (segs := [(W_M cI cC cT h0 h1 h2 h3 h4 h5 h6 h7 h8 h9 h10 hlg tk fx xl xp rmn hdn few mst fal al_7 sv_4 hi sn ch my kp tx rd wy)]) (wcs := [(W_M cI cC cT h0 h1 h2 h3 h4 h5 h6 h7 h8 h9 h10 hlg tk fx xl xp rmn hdn few mst fal al_7 sv_4 hi sn ch my kp tx rd wy)]) (w1s := [(W_M cI cC cT h0 h1 h2 h3 h4 h5 h6 h7 h8 h9 h10 hlg_11 tk fx xl xp rmn hdn few mst fal al_7 sv_4 hi_12 sn ch my kp tx rd wy)]) (w2s := [(W_M cI cC cT h0 h1 h2 h3 h4 h5 h6 h7 h8 h9 h10 hlg_11 tk fx xl xp rmn hdn few mst fal al_7 sv_4 hi_12 sn ch my kp tx rd wy)]) rfl rfl (va_runV (As := [.int r_6]) (rest := []) ⟨hx, hb, hml, hown, hts⟩ (c_X6_acted l D cI cC cT h0 h1 h2 h3 h4 h5 h6 h7 h8 h9 h10 hlg tk fx xl xp rmn hdn few mst fal al_7 sv_4 hi sn ch my kp tx rd wy H.size r_6 r_10 hlg_11 hi_12 q_13) (cwV 1 hts gX6_mend_X6_acted rfl rfl rfl (by decide +kernel) ⟨Nat.le_of_ble_eq_true rfl, Nat.le_of_ble_eq_true rfl⟩) (mPreVS [(W_M cI cC cT h0 h1 h2 h3 h4 h5 h6 h7 h8 h9 h10 hlg tk fx xl xp rmn hdn few mst fal al_7 sv_4 hi sn ch my kp tx rd wy)] rfl hP hD hK hN [0] rfl (by decide) (va_recv hK (sP hP 0 rfl) (ci := 6) (q0 := 0) rfl rfl)) rfl rfl hl.1 rfl (lv_room (Nat.le_of_ble_eq_true rfl)) dX6_mend_31 ⟨Nat.zero_le _, Nat.zero_le _⟩) hP hD hS hA [0] rfl rfl rfl rfl (fun H locs hP hD hS => ?_)
      cases hf
      exact mIret hx hb hr hlocks hP hD hK hS dX6_mend_34
    · have hf := ite_t hf c_9
      refine lv_bipush (v := -5) hx hb dX6_mend_24 (by decide) ?_
      refine lv_goto (tgt := 34) hx hb dX6_mend_26 (by decide) ?_
      cases hf
      exact mIret hx hb hr hlocks hP hD hK hS dX6_mend_34
  · have hf := ite_t hf c_3
    refine lv_iconst (v := -1) hx hb dX6_mend_8 (by decide) ?_
    cases hf
    exact mIret hx hb hr hlocks hP hD hK hS dX6_mend_9
abbrev rm_X6_mendAll : Room := { frames := 2, cells := 0, slots := 0, locals := 47 }
set_option maxHeartbeats 4000000 in
set_option maxRecDepth 100000 in
theorem c_X6_mendAll (l : Launch) (D : va_G) (cI cC cT : ClassId) (h0 h1 h2 h3 h4 h5 h6 h7 h8 h9 h10 : Nat) (hlg : Int32) (tk : Int32) (fx : Int32) (xl : Int32) (xp : Int32) (rmn : Int32) (hdn : Int32) (few : Int32) (mst : Int32) (fal : Int32) (al : Nat → Int32) (sv : Nat → Int32) (hi : Nat → Int32) (sn : Nat → Int32) (ch : Nat → Int32) (my : Nat → Int32) (kp : Nat → Int32) (tx : Nat → Int32) (rd : Nat → Int32) (wy : Nat → Int32) (sz : Nat) (p0 : Int32) (out : Int32) (o_hlg : Int32) (o_al : Nat → Int32) (o_sv : Nat → Int32) (o_hi : Nat → Int32) (hf : f_X6_mendAll hlg al sv hi p0 = some ((out, o_hlg, o_al, o_sv, o_hi))) : Met l yX6_mendAll wsX6_mendAll rm_X6_mendAll (mP D (mTY cI cC cT) [.ref h0, .int p0] (List.flatten [(W_M cI cC cT h0 h1 h2 h3 h4 h5 h6 h7 h8 h9 h10 hlg tk fx xl xp rmn hdn few mst fal al sv hi sn ch my kp tx rd wy)]) sz) (mQi D (mTY cI cC cT) out (va_A (List.flatten [(W_M cI cC cT h0 h1 h2 h3 h4 h5 h6 h7 h8 h9 h10 hlg tk fx xl xp rmn hdn few mst fal al sv hi sn ch my kp tx rd wy)]) sz) (List.flatten [(W_M cI cC cT h0 h1 h2 h3 h4 h5 h6 h7 h8 h9 h10 o_hlg tk fx xl xp rmn hdn few mst fal o_al o_sv o_hi sn ch my kp tx rd wy)])) 0 0 (va_A (List.flatten [(W_M cI cC cT h0 h1 h2 h3 h4 h5 h6 h7 h8 h9 h10 hlg tk fx xl xp rmn hdn few mst fal al sv hi sn ch my kp tx rd wy)]) sz) := by
  refine mEnt (cc := cX6_mendAll) (maxL := 4) (ret := (some .int)) (own := RX6) (Qq := fun A => mQi D (mTY cI cC cT) out A (List.flatten [(W_M cI cC cT h0 h1 h2 h3 h4 h5 h6 h7 h8 h9 h10 o_hlg tk fx xl xp rmn hdn few mst fal o_al o_sv o_hi sn ch my kp tx rd wy)])) (by decide) rfl rfl (Nat.le_of_ble_eq_true rfl) ?_
  intro p e s m below meth c A ls H locs hx hb hr hml hlocks hown hts hN hA hP hK hD hS hl
  have hl : lv_has ls 4 [(0, .ref h0), (1, .int p0)] := hl
  unfold f_X6_mendAll at hf
  refine lv_iload_n hx hb dX6_mendAll_0 rfl (lv_at hl 1 rfl) ?_
  refine lv_i2l hx hb dX6_mendAll_1 rfl ?_
  refine lv_lconst (v := 0) hx hb dX6_mendAll_2 rfl ?_
  refine lv_ldc2 (v := 2) hx hb hown (hts (.constantLong RX6 98 (2)) (by decide +kernel)) dX6_mendAll_3 ?_
  obtain ⟨r_1, q_2, hf⟩ := bnd hf
  refine mGoiS (segs := [(W_M cI cC cT h0 h1 h2 h3 h4 h5 h6 h7 h8 h9 h10 hlg tk fx xl xp rmn hdn few mst fal al sv hi sn ch my kp tx rd wy)]) (wcs := []) (w1s := []) (w2s := [(W_M cI cC cT h0 h1 h2 h3 h4 h5 h6 h7 h8 h9 h10 hlg tk fx xl xp rmn hdn few mst fal al sv hi sn ch my kp tx rd wy)]) rfl rfl (va_runS (As := [.long (Int32.toInt64 p0), .long 0, .long 2]) (rest := []) ⟨hx, hb, hml, hown, hts⟩ (c_X6_in l D cI cC cT H.size (Int32.toInt64 p0) 0 2 r_1 q_2) (va_cwS 3 hts gX6_mendAll_X6_in rfl rfl rfl (by decide +kernel) ⟨Nat.le_of_ble_eq_true rfl, Nat.le_of_ble_eq_true rfl⟩) (mPreSS [] rfl hP hD hK hN [] rfl (by decide)) rfl rfl hl.1 rfl (lv_room (Nat.le_of_ble_eq_true rfl)) dX6_mendAll_6 ⟨Nat.zero_le _, Nat.zero_le _⟩) hP hD hS hA [] rfl rfl rfl rfl (fun H locs hP hD hS => ?_)
  refine lv_if_ne (tgt := 15) hx hb dX6_mendAll_9 (by decide) (fun c_3 => ?_) (fun c_3 => ?_)
  · have hf := ite_f hf c_3
    refine lv_aload_n hx hb dX6_mendAll_15 rfl (lv_at hl 0 rfl) ?_
    obtain ⟨sv_4, q_5, hf⟩ := bnd hf
    refine mGovS (segs := [(W_M cI cC cT h0 h1 h2 h3 h4 h5 h6 h7 h8 h9 h10 hlg tk fx xl xp rmn hdn few mst fal al sv hi sn ch my kp tx rd wy)]) (wcs := [(W_M cI cC cT h0 h1 h2 h3 h4 h5 h6 h7 h8 h9 h10 hlg tk fx xl xp rmn hdn few mst fal al sv hi sn ch my kp tx rd wy)]) (w1s := [(W_M cI cC cT h0 h1 h2 h3 h4 h5 h6 h7 h8 h9 h10 hlg tk fx xl xp rmn hdn few mst fal al sv_4 hi sn ch my kp tx rd wy)]) (w2s := [(W_M cI cC cT h0 h1 h2 h3 h4 h5 h6 h7 h8 h9 h10 hlg tk fx xl xp rmn hdn few mst fal al sv_4 hi sn ch my kp tx rd wy)]) rfl rfl (va_runV (As := []) (rest := []) ⟨hx, hb, hml, hown, hts⟩ (c_X6_remember l D cI cC cT h0 h1 h2 h3 h4 h5 h6 h7 h8 h9 h10 hlg tk fx xl xp rmn hdn few mst fal al sv hi sn ch my kp tx rd wy H.size sv_4 q_5) (cwV 0 hts gX6_mendAll_X6_remember rfl rfl rfl (by decide +kernel) ⟨Nat.le_of_ble_eq_true rfl, Nat.le_of_ble_eq_true rfl⟩) (mPreVS [(W_M cI cC cT h0 h1 h2 h3 h4 h5 h6 h7 h8 h9 h10 hlg tk fx xl xp rmn hdn few mst fal al sv hi sn ch my kp tx rd wy)] rfl hP hD hK hN [0] rfl (by decide) (va_recv hK (sP hP 0 rfl) (ci := 6) (q0 := 0) rfl rfl)) rfl rfl hl.1 rfl (lv_room (Nat.le_of_ble_eq_true rfl)) dX6_mendAll_16 ⟨Nat.zero_le _, Nat.zero_le _⟩) hP hD hS hA [0] rfl rfl rfl rfl (fun H locs hP hD hS => ?_)
    refine lv_iconst (v := 0) hx hb dX6_mendAll_19 (by decide) ?_
    refine lv_istore_n (lv' := [(2, .int 0), (0, .ref h0), (1, .int p0)]) hx hb dX6_mendAll_20 rfl hl (by decide) rfl (fun ls hl => ?_)
    refine lv_iconst (v := 0) hx hb dX6_mendAll_21 (by decide) ?_
    refine lv_istore_n (lv' := [(3, .int 0), (2, .int 0), (0, .ref h0), (1, .int p0)]) hx hb dX6_mendAll_22 rfl hl (by decide) rfl (fun ls hl => ?_)
    have LP_9 : ∀ (n_9 : Nat) (v2_6 : Int32) (v3_7 : Int32) (al_8 : Nat → Int32), iter n_9 (b_X6_mendAll_1 hlg hi p0 sv_4) ((v2_6, v3_7, al_8)) = some ((out, o_hlg, o_al, o_sv, o_hi)) → ∀ (H : Heap) (locs : List Loc), va_P D vwCl (List.flatten [(W_M cI cC cT h0 h1 h2 h3 h4 h5 h6 h7 h8 h9 h10 hlg tk fx xl xp rmn hdn few mst fal al_8 sv_4 hi sn ch my kp tx rd wy)]) H → va_D A (List.flatten [(W_M cI cC cT h0 h1 h2 h3 h4 h5 h6 h7 h8 h9 h10 hlg tk fx xl xp rmn hdn few mst fal al_8 sv_4 hi sn ch my kp tx rd wy)]) → va_S A s.heap H locs → ∀ (ls : Array Slot), lv_has ls 4 [(0, .ref h0), (1, .int p0), (2, .int v2_6), (3, .int v3_7)] → W p l e rm_X6_mendAll s m ([.ref h0, .int p0] : List Value).toArray below meth c H locs 0 0 (MQ below (mQi D (mTY cI cC cT) out A (List.flatten [(W_M cI cC cT h0 h1 h2 h3 h4 h5 h6 h7 h8 h9 h10 o_hlg tk fx xl xp rmn hdn few mst fal o_al o_sv o_hi sn ch my kp tx rd wy)])) ([.ref h0, .int p0] : List Value).toArray s 0 0 A) (F0 m 23 ls []) := by
      intro n_9
      induction n_9 with
      | zero => intro v2_6 v3_7 al_8 hf; exact (iter_zero hf).elim
      | succ n_9 ih_9 =>
        intro v2_6 v3_7 al_8 hf H locs hP hD hS ls hl
        obtain ⟨o_9, hf, ho_9⟩ := iter_succ hf
        dsimp only [b_X6_mendAll_1] at hf
        refine lv_iload_n hx hb dX6_mendAll_23 rfl (lv_at hl 3 rfl) ?_
        refine lv_bipush (v := 10) hx hb dX6_mendAll_24 (by decide) ?_
        refine lv_icmp_ge (tgt := 82) hx hb dX6_mendAll_26 (by decide) (fun c_10 => ?_) (fun c_10 => ?_)
        · have hf := ite_t hf c_10
          refine lv_iload_n hx hb dX6_mendAll_82 rfl (lv_at hl 2 rfl) ?_
          refine lv_if_ne (tgt := 91) hx hb dX6_mendAll_83 (by decide) (fun c_11 => ?_) (fun c_11 => ?_)
          · have hf := ite_f hf c_11
            refine lv_aload_n hx hb dX6_mendAll_91 rfl (lv_at hl 0 rfl) ?_
            refine lv_iload_n hx hb dX6_mendAll_92 rfl (lv_at hl 2 rfl) ?_
            obtain ⟨⟨r_12, hlg_13, hi_14⟩, q_15, hf⟩ := bnd hf
            refine mGoiS (segs := [(W_M cI cC cT h0 h1 h2 h3 h4 h5 h6 h7 h8 h9 h10 hlg tk fx xl xp rmn hdn few mst fal al_8 sv_4 hi sn ch my kp tx rd wy)]) (wcs := [(W_M cI cC cT h0 h1 h2 h3 h4 h5 h6 h7 h8 h9 h10 hlg tk fx xl xp rmn hdn few mst fal al_8 sv_4 hi sn ch my kp tx rd wy)]) (w1s := [(W_M cI cC cT h0 h1 h2 h3 h4 h5 h6 h7 h8 h9 h10 hlg_13 tk fx xl xp rmn hdn few mst fal al_8 sv_4 hi_14 sn ch my kp tx rd wy)]) (w2s := [(W_M cI cC cT h0 h1 h2 h3 h4 h5 h6 h7 h8 h9 h10 hlg_13 tk fx xl xp rmn hdn few mst fal al_8 sv_4 hi_14 sn ch my kp tx rd wy)]) rfl rfl (va_runV (As := [.int v2_6]) (rest := []) ⟨hx, hb, hml, hown, hts⟩ (c_X6_acted l D cI cC cT h0 h1 h2 h3 h4 h5 h6 h7 h8 h9 h10 hlg tk fx xl xp rmn hdn few mst fal al_8 sv_4 hi sn ch my kp tx rd wy H.size v2_6 r_12 hlg_13 hi_14 q_15) (cwV 1 hts gX6_mendAll_X6_acted rfl rfl rfl (by decide +kernel) ⟨Nat.le_of_ble_eq_true rfl, Nat.le_of_ble_eq_true rfl⟩) (mPreVS [(W_M cI cC cT h0 h1 h2 h3 h4 h5 h6 h7 h8 h9 h10 hlg tk fx xl xp rmn hdn few mst fal al_8 sv_4 hi sn ch my kp tx rd wy)] rfl hP hD hK hN [0] rfl (by decide) (va_recv hK (sP hP 0 rfl) (ci := 6) (q0 := 0) rfl rfl)) rfl rfl hl.1 rfl (lv_room (Nat.le_of_ble_eq_true rfl)) dX6_mendAll_93 ⟨Nat.zero_le _, Nat.zero_le _⟩) hP hD hS hA [0] rfl rfl rfl rfl (fun H locs hP hD hS => ?_)
            cases hf
            have hf := ho_9.2 _ rfl
            cases hf
            exact mIret hx hb hr hlocks hP hD hK hS dX6_mendAll_96
          · have hf := ite_t hf c_11
            refine lv_bipush (v := -5) hx hb dX6_mendAll_86 (by decide) ?_
            refine lv_goto (tgt := 96) hx hb dX6_mendAll_88 (by decide) ?_
            cases hf
            have hf := ho_9.2 _ rfl
            cases hf
            exact mIret hx hb hr hlocks hP hD hK hS dX6_mendAll_96
        · have hf := ite_f hf c_10
          refine lv_aload_n hx hb dX6_mendAll_29 rfl (lv_at hl 0 rfl) ?_
          refine lv_iload_n hx hb dX6_mendAll_30 rfl (lv_at hl 3 rfl) ?_
          obtain ⟨r_16, q_17, hf⟩ := bnd hf
          refine mGoiS (segs := [(W_M cI cC cT h0 h1 h2 h3 h4 h5 h6 h7 h8 h9 h10 hlg tk fx xl xp rmn hdn few mst fal al_8 sv_4 hi sn ch my kp tx rd wy)]) (wcs := [(W_M cI cC cT h0 h1 h2 h3 h4 h5 h6 h7 h8 h9 h10 hlg tk fx xl xp rmn hdn few mst fal al_8 sv_4 hi sn ch my kp tx rd wy)]) (w1s := [(W_M cI cC cT h0 h1 h2 h3 h4 h5 h6 h7 h8 h9 h10 hlg tk fx xl xp rmn hdn few mst fal al_8 sv_4 hi sn ch my kp tx rd wy)]) (w2s := [(W_M cI cC cT h0 h1 h2 h3 h4 h5 h6 h7 h8 h9 h10 hlg tk fx xl xp rmn hdn few mst fal al_8 sv_4 hi sn ch my kp tx rd wy)]) rfl rfl (va_runV (As := [.int v3_7]) (rest := []) ⟨hx, hb, hml, hown, hts⟩ (c_X6_rowsOf l D cI cC cT h0 h1 h2 h3 h4 h5 h6 h7 h8 h9 h10 hlg tk fx xl xp rmn hdn few mst fal al_8 sv_4 hi sn ch my kp tx rd wy H.size v3_7 r_16 q_17) (cwV 1 hts gX6_mendAll_X6_rowsOf rfl rfl rfl (by decide +kernel) ⟨Nat.le_of_ble_eq_true rfl, Nat.le_of_ble_eq_true rfl⟩) (mPreVS [(W_M cI cC cT h0 h1 h2 h3 h4 h5 h6 h7 h8 h9 h10 hlg tk fx xl xp rmn hdn few mst fal al_8 sv_4 hi sn ch my kp tx rd wy)] rfl hP hD hK hN [0] rfl (by decide) (va_recv hK (sP hP 0 rfl) (ci := 6) (q0 := 0) rfl rfl)) rfl rfl hl.1 rfl (lv_room (Nat.le_of_ble_eq_true rfl)) dX6_mendAll_31 ⟨Nat.zero_le _, Nat.zero_le _⟩) hP hD hS hA [0] rfl rfl rfl rfl (fun H locs hP hD hS => ?_)
          refine lv_iconst (v := 1) hx hb dX6_mendAll_34 (by decide) ?_
          obtain ⟨⟨x_18, al_19⟩, q_21, hf⟩ := bnd hf
          have K_20 : ∀ (H : Heap) (locs : List Loc), va_P D vwCl (List.flatten [(W_M cI cC cT h0 h1 h2 h3 h4 h5 h6 h7 h8 h9 h10 hlg tk fx xl xp rmn hdn few mst fal al_19 sv_4 hi sn ch my kp tx rd wy)]) H → va_D A (List.flatten [(W_M cI cC cT h0 h1 h2 h3 h4 h5 h6 h7 h8 h9 h10 hlg tk fx xl xp rmn hdn few mst fal al_19 sv_4 hi sn ch my kp tx rd wy)]) → va_S A s.heap H locs → ∀ (ls : Array Slot), lv_has ls 4 [(0, .ref h0), (1, .int p0), (2, .int x_18), (3, .int v3_7)] → W p l e rm_X6_mendAll s m ([.ref h0, .int p0] : List Value).toArray below meth c H locs 0 0 (MQ below (mQi D (mTY cI cC cT) out A (List.flatten [(W_M cI cC cT h0 h1 h2 h3 h4 h5 h6 h7 h8 h9 h10 o_hlg tk fx xl xp rmn hdn few mst fal o_al o_sv o_hi sn ch my kp tx rd wy)])) ([.ref h0, .int p0] : List Value).toArray s 0 0 A) (F0 m 76 ls []) := by
            intro H locs hP hD hS ls hl
            refine lv_iinc (v := v3_7 + 1) (lv' := [(3, .int (v3_7 + 1)), (0, .ref h0), (1, .int p0), (2, .int x_18)]) hx hb dX6_mendAll_76 hl (k := 3) rfl rfl (by decide) rfl (fun ls hl => ?_)
            refine lv_goto (tgt := 23) hx hb dX6_mendAll_79 (by decide) ?_
            cases hf
            have hf := ho_9.1 _ rfl
            exact ih_9 _ _ _ hf _ _ hP hD hS _ (lv_sub hl [1, 2, 3, 0] rfl)
          have hf := q_21
          refine lv_icmp_le (tgt := 76) hx hb dX6_mendAll_35 (by decide) (fun c_22 => ?_) (fun c_22 => ?_)
          · have hf := ite_t hf c_22
            cases hf
            exact K_20 _ _ hP hD hS _ (lv_sub hl [0, 1, 2, 3] rfl)
          · have hf := ite_f hf c_22
            refine lv_iload_n hx hb dX6_mendAll_38 rfl (lv_at hl 2 rfl) ?_
            refine lv_aload_n hx hb dX6_mendAll_39 rfl (lv_at hl 0 rfl) ?_
            refine lv_iload_n hx hb dX6_mendAll_40 rfl (lv_at hl 1 rfl) ?_
            obtain ⟨x_23, q_25, hf⟩ := bnd hf
            have K_24 : ∀ (H : Heap) (locs : List Loc), va_P D vwCl (List.flatten [(W_M cI cC cT h0 h1 h2 h3 h4 h5 h6 h7 h8 h9 h10 hlg tk fx xl xp rmn hdn few mst fal al_8 sv_4 hi sn ch my kp tx rd wy)]) H → va_D A (List.flatten [(W_M cI cC cT h0 h1 h2 h3 h4 h5 h6 h7 h8 h9 h10 hlg tk fx xl xp rmn hdn few mst fal al_8 sv_4 hi sn ch my kp tx rd wy)]) → va_S A s.heap H locs → ∀ (ls : Array Slot), lv_has ls 4 [(0, .ref h0), (1, .int p0), (3, .int v3_7)] → W p l e rm_X6_mendAll s m ([.ref h0, .int p0] : List Value).toArray below meth c H locs 0 0 (MQ below (mQi D (mTY cI cC cT) out A (List.flatten [(W_M cI cC cT h0 h1 h2 h3 h4 h5 h6 h7 h8 h9 h10 o_hlg tk fx xl xp rmn hdn few mst fal o_al o_sv o_hi sn ch my kp tx rd wy)])) ([.ref h0, .int p0] : List Value).toArray s 0 0 A) (F0 m 71 ls [.int x_23, .ref h0, .int v2_6]) := by
              intro H locs hP hD hS ls hl
              obtain ⟨⟨r_34, al_35⟩, q_36, hf⟩ := bnd hf
              refine mGoiS (segs := [(W_M cI cC cT h0 h1 h2 h3 h4 h5 h6 h7 h8 h9 h10 hlg tk fx xl xp rmn hdn few mst fal al_8 sv_4 hi sn ch my kp tx rd wy)]) (wcs := [(W_M cI cC cT h0 h1 h2 h3 h4 h5 h6 h7 h8 h9 h10 hlg tk fx xl xp rmn hdn few mst fal al_8 sv_4 hi sn ch my kp tx rd wy)]) (w1s := [(W_M cI cC cT h0 h1 h2 h3 h4 h5 h6 h7 h8 h9 h10 hlg tk fx xl xp rmn hdn few mst fal al_35 sv_4 hi sn ch my kp tx rd wy)]) (w2s := [(W_M cI cC cT h0 h1 h2 h3 h4 h5 h6 h7 h8 h9 h10 hlg tk fx xl xp rmn hdn few mst fal al_35 sv_4 hi sn ch my kp tx rd wy)]) rfl rfl (va_runV (As := [.int x_23]) (rest := [.int v2_6]) ⟨hx, hb, hml, hown, hts⟩ (c_X6_mends l D cI cC cT h0 h1 h2 h3 h4 h5 h6 h7 h8 h9 h10 hlg tk fx xl xp rmn hdn few mst fal al_8 sv_4 hi sn ch my kp tx rd wy H.size x_23 r_34 al_35 q_36) (cwV 1 hts gX6_mendAll_X6_mends rfl rfl rfl (by decide +kernel) ⟨Nat.le_of_ble_eq_true rfl, Nat.le_of_ble_eq_true rfl⟩) (mPreVS [(W_M cI cC cT h0 h1 h2 h3 h4 h5 h6 h7 h8 h9 h10 hlg tk fx xl xp rmn hdn few mst fal al_8 sv_4 hi sn ch my kp tx rd wy)] rfl hP hD hK hN [0] rfl (by decide) (va_recv hK (sP hP 0 rfl) (ci := 6) (q0 := 0) rfl rfl)) rfl rfl hl.1 rfl (lv_room (Nat.le_of_ble_eq_true rfl)) dX6_mendAll_71 ⟨Nat.zero_le _, Nat.zero_le _⟩) hP hD hS hA [0] rfl rfl rfl rfl (fun H locs hP hD hS => ?_)
              refine lv_iadd hx hb dX6_mendAll_74 ?_
              refine lv_istore_n (lv' := [(2, .int (v2_6 + r_34)), (0, .ref h0), (1, .int p0), (3, .int v3_7)]) hx hb dX6_mendAll_75 rfl hl (by decide) rfl (fun ls hl => ?_)
              cases hf
              exact K_20 _ _ hP hD hS _ (lv_sub hl [1, 2, 0, 3] rfl)
            have hf := q_25
            refine lv_if_ne (tgt := 52) hx hb dX6_mendAll_41 (by decide) (fun c_26 => ?_) (fun c_26 => ?_)
            · have hf := ite_f hf c_26
              refine lv_iload_n hx hb dX6_mendAll_52 rfl (lv_at hl 1 rfl) ?_
              refine lv_iconst (v := 1) hx hb dX6_mendAll_53 (by decide) ?_
              refine lv_icmp_ne (tgt := 65) hx hb dX6_mendAll_54 (by decide) (fun c_27 => ?_) (fun c_27 => ?_)
              · have hf := ite_f hf c_27
                refine lv_aload_n hx hb dX6_mendAll_65 rfl (lv_at hl 0 rfl) ?_
                refine lv_iload_n hx hb dX6_mendAll_66 rfl (lv_at hl 3 rfl) ?_
                refine lv_iconst (v := 1) hx hb dX6_mendAll_67 (by decide) ?_
                obtain ⟨r_28, q_29, hf⟩ := bnd hf
                refine mGoiS (segs := [(W_M cI cC cT h0 h1 h2 h3 h4 h5 h6 h7 h8 h9 h10 hlg tk fx xl xp rmn hdn few mst fal al_8 sv_4 hi sn ch my kp tx rd wy)]) (wcs := [(W_M cI cC cT h0 h1 h2 h3 h4 h5 h6 h7 h8 h9 h10 hlg tk fx xl xp rmn hdn few mst fal al_8 sv_4 hi sn ch my kp tx rd wy)]) (w1s := [(W_M cI cC cT h0 h1 h2 h3 h4 h5 h6 h7 h8 h9 h10 hlg tk fx xl xp rmn hdn few mst fal al_8 sv_4 hi sn ch my kp tx rd wy)]) (w2s := [(W_M cI cC cT h0 h1 h2 h3 h4 h5 h6 h7 h8 h9 h10 hlg tk fx xl xp rmn hdn few mst fal al_8 sv_4 hi sn ch my kp tx rd wy)]) rfl rfl (va_runV (As := [.int v3_7, .int 1]) (rest := [.ref h0, .int v2_6]) ⟨hx, hb, hml, hown, hts⟩ (c_X6_outermost l D cI cC cT h0 h1 h2 h3 h4 h5 h6 h7 h8 h9 h10 hlg tk fx xl xp rmn hdn few mst fal al_8 sv_4 hi sn ch my kp tx rd wy H.size v3_7 1 r_28 q_29) (cwV 2 hts gX6_mendAll_X6_outermost rfl rfl rfl (by decide +kernel) ⟨Nat.le_of_ble_eq_true rfl, Nat.le_of_ble_eq_true rfl⟩) (mPreVS [(W_M cI cC cT h0 h1 h2 h3 h4 h5 h6 h7 h8 h9 h10 hlg tk fx xl xp rmn hdn few mst fal al_8 sv_4 hi sn ch my kp tx rd wy)] rfl hP hD hK hN [0] rfl (by decide) (va_recv hK (sP hP 0 rfl) (ci := 6) (q0 := 0) rfl rfl)) rfl rfl hl.1 rfl (lv_room (Nat.le_of_ble_eq_true rfl)) dX6_mendAll_68 ⟨Nat.zero_le _, Nat.zero_le _⟩) hP hD hS hA [0] rfl rfl rfl rfl (fun H locs hP hD hS => ?_)
                cases hf
                exact K_24 _ _ hP hD hS _ (lv_sub hl [0, 1, 3] rfl)
              · have hf := ite_t hf c_27
                refine lv_aload_n hx hb dX6_mendAll_57 rfl (lv_at hl 0 rfl) ?_
                refine lv_iload_n hx hb dX6_mendAll_58 rfl (lv_at hl 3 rfl) ?_
                obtain ⟨r_30, q_31, hf⟩ := bnd hf
                refine mGoiS (segs := [(W_M cI cC cT h0 h1 h2 h3 h4 h5 h6 h7 h8 h9 h10 hlg tk fx xl xp rmn hdn few mst fal al_8 sv_4 hi sn ch my kp tx rd wy)]) (wcs := [(W_M cI cC cT h0 h1 h2 h3 h4 h5 h6 h7 h8 h9 h10 hlg tk fx xl xp rmn hdn few mst fal al_8 sv_4 hi sn ch my kp tx rd wy)]) (w1s := [(W_M cI cC cT h0 h1 h2 h3 h4 h5 h6 h7 h8 h9 h10 hlg tk fx xl xp rmn hdn few mst fal al_8 sv_4 hi sn ch my kp tx rd wy)]) (w2s := [(W_M cI cC cT h0 h1 h2 h3 h4 h5 h6 h7 h8 h9 h10 hlg tk fx xl xp rmn hdn few mst fal al_8 sv_4 hi sn ch my kp tx rd wy)]) rfl rfl (va_runV (As := [.int v3_7]) (rest := [.ref h0, .int v2_6]) ⟨hx, hb, hml, hown, hts⟩ (c_X6_lastOf l D cI cC cT h0 h1 h2 h3 h4 h5 h6 h7 h8 h9 h10 hlg tk fx xl xp rmn hdn few mst fal al_8 sv_4 hi sn ch my kp tx rd wy H.size v3_7 r_30 q_31) (cwV 1 hts gX6_mendAll_X6_lastOf rfl rfl rfl (by decide +kernel) ⟨Nat.le_of_ble_eq_true rfl, Nat.le_of_ble_eq_true rfl⟩) (mPreVS [(W_M cI cC cT h0 h1 h2 h3 h4 h5 h6 h7 h8 h9 h10 hlg tk fx xl xp rmn hdn few mst fal al_8 sv_4 hi sn ch my kp tx rd wy)] rfl hP hD hK hN [0] rfl (by decide) (va_recv hK (sP hP 0 rfl) (ci := 6) (q0 := 0) rfl rfl)) rfl rfl hl.1 rfl (lv_room (Nat.le_of_ble_eq_true rfl)) dX6_mendAll_59 ⟨Nat.zero_le _, Nat.zero_le _⟩) hP hD hS hA [0] rfl rfl rfl rfl (fun H locs hP hD hS => ?_)
                refine lv_goto (tgt := 71) hx hb dX6_mendAll_62 (by decide) ?_
                cases hf
                exact K_24 _ _ hP hD hS _ (lv_sub hl [0, 1, 3] rfl)
            · have hf := ite_t hf c_26
              refine lv_aload_n hx hb dX6_mendAll_44 rfl (lv_at hl 0 rfl) ?_
              refine lv_iload_n hx hb dX6_mendAll_45 rfl (lv_at hl 3 rfl) ?_
              obtain ⟨r_32, q_33, hf⟩ := bnd hf
              refine mGoiS (segs := [(W_M cI cC cT h0 h1 h2 h3 h4 h5 h6 h7 h8 h9 h10 hlg tk fx xl xp rmn hdn few mst fal al_8 sv_4 hi sn ch my kp tx rd wy)]) (wcs := [(W_M cI cC cT h0 h1 h2 h3 h4 h5 h6 h7 h8 h9 h10 hlg tk fx xl xp rmn hdn few mst fal al_8 sv_4 hi sn ch my kp tx rd wy)]) (w1s := [(W_M cI cC cT h0 h1 h2 h3 h4 h5 h6 h7 h8 h9 h10 hlg tk fx xl xp rmn hdn few mst fal al_8 sv_4 hi sn ch my kp tx rd wy)]) (w2s := [(W_M cI cC cT h0 h1 h2 h3 h4 h5 h6 h7 h8 h9 h10 hlg tk fx xl xp rmn hdn few mst fal al_8 sv_4 hi sn ch my kp tx rd wy)]) rfl rfl (va_runV (As := [.int v3_7]) (rest := [.ref h0, .int v2_6]) ⟨hx, hb, hml, hown, hts⟩ (c_X6_firstOf l D cI cC cT h0 h1 h2 h3 h4 h5 h6 h7 h8 h9 h10 hlg tk fx xl xp rmn hdn few mst fal al_8 sv_4 hi sn ch my kp tx rd wy H.size v3_7 r_32 q_33) (cwV 1 hts gX6_mendAll_X6_firstOf rfl rfl rfl (by decide +kernel) ⟨Nat.le_of_ble_eq_true rfl, Nat.le_of_ble_eq_true rfl⟩) (mPreVS [(W_M cI cC cT h0 h1 h2 h3 h4 h5 h6 h7 h8 h9 h10 hlg tk fx xl xp rmn hdn few mst fal al_8 sv_4 hi sn ch my kp tx rd wy)] rfl hP hD hK hN [0] rfl (by decide) (va_recv hK (sP hP 0 rfl) (ci := 6) (q0 := 0) rfl rfl)) rfl rfl hl.1 rfl (lv_room (Nat.le_of_ble_eq_true rfl)) dX6_mendAll_46 ⟨Nat.zero_le _, Nat.zero_le _⟩) hP hD hS hA [0] rfl rfl rfl rfl (fun H locs hP hD hS => ?_)
              refine lv_goto (tgt := 71) hx hb dX6_mendAll_49 (by decide) ?_
              cases hf
              exact K_24 _ _ hP hD hS _ (lv_sub hl [0, 1, 3] rfl)
    exact LP_9 _ _ _ _ hf _ _ hP hD hS _ (lv_sub hl [2, 3, 1, 0] rfl)
  · have hf := ite_t hf c_3
    refine lv_bipush (v := -2) hx hb dX6_mendAll_12 (by decide) ?_
    cases hf
    exact mIret hx hb hr hlocks hP hD hK hS dX6_mendAll_14
abbrev rm_X6_prefer : Room := { frames := 4, cells := 0, slots := 0, locals := 91 }
set_option maxHeartbeats 4000000 in
set_option maxRecDepth 100000 in
theorem c_X6_prefer (l : Launch) (D : va_G) (cI cC cT : ClassId) (h0 h1 h2 h3 h4 h5 h6 h7 h8 h9 h10 : Nat) (hlg : Int32) (tk : Int32) (fx : Int32) (xl : Int32) (xp : Int32) (rmn : Int32) (hdn : Int32) (few : Int32) (mst : Int32) (fal : Int32) (al : Nat → Int32) (sv : Nat → Int32) (hi : Nat → Int32) (sn : Nat → Int32) (ch : Nat → Int32) (my : Nat → Int32) (kp : Nat → Int32) (tx : Nat → Int32) (rd : Nat → Int32) (wy : Nat → Int32) (sz : Nat) (p0 : Int32) (out : Int32) (o_hlg : Int32) (o_al : Nat → Int32) (o_sv : Nat → Int32) (o_hi : Nat → Int32) (o_ch : Nat → Int32) (o_my : Nat → Int32) (hf : f_X6_prefer hlg fx al sv hi ch my p0 = some ((out, o_hlg, o_al, o_sv, o_hi, o_ch, o_my))) : Met l yX6_prefer wsX6_prefer rm_X6_prefer (mP D (mTY cI cC cT) [.ref h0, .int p0] (List.flatten [(W_M cI cC cT h0 h1 h2 h3 h4 h5 h6 h7 h8 h9 h10 hlg tk fx xl xp rmn hdn few mst fal al sv hi sn ch my kp tx rd wy)]) sz) (mQi D (mTY cI cC cT) out (va_A (List.flatten [(W_M cI cC cT h0 h1 h2 h3 h4 h5 h6 h7 h8 h9 h10 hlg tk fx xl xp rmn hdn few mst fal al sv hi sn ch my kp tx rd wy)]) sz) (List.flatten [(W_M cI cC cT h0 h1 h2 h3 h4 h5 h6 h7 h8 h9 h10 o_hlg tk fx xl xp rmn hdn few mst fal o_al o_sv o_hi sn o_ch o_my kp tx rd wy)])) 0 0 (va_A (List.flatten [(W_M cI cC cT h0 h1 h2 h3 h4 h5 h6 h7 h8 h9 h10 hlg tk fx xl xp rmn hdn few mst fal al sv hi sn ch my kp tx rd wy)]) sz) := by
  refine mEnt (cc := cX6_prefer) (maxL := 3) (ret := (some .int)) (own := RX6) (Qq := fun A => mQi D (mTY cI cC cT) out A (List.flatten [(W_M cI cC cT h0 h1 h2 h3 h4 h5 h6 h7 h8 h9 h10 o_hlg tk fx xl xp rmn hdn few mst fal o_al o_sv o_hi sn o_ch o_my kp tx rd wy)])) (by decide) rfl rfl (Nat.le_of_ble_eq_true rfl) ?_
  intro p e s m below meth c A ls H locs hx hb hr hml hlocks hown hts hN hA hP hK hD hS hl
  have hin_X6 : ∀ w ∈ u_ws RX6 TX6 20, w ∈ wsX6_prefer := by decide +kernel
  have fl_7 := hts (.fieldLink RX6 7 "SureMendingsModel" "all" "[I") (by decide +kernel)
  have hl : lv_has ls 3 [(0, .ref h0), (1, .int p0)] := hl
  unfold f_X6_prefer at hf
  refine lv_iload_n hx hb dX6_prefer_0 rfl (lv_at hl 1 rfl) ?_
  obtain ⟨x_1, q_3, hf⟩ := bnd hf
  have K_2 : ∀ (H : Heap) (locs : List Loc), va_P D vwCl (List.flatten [(W_M cI cC cT h0 h1 h2 h3 h4 h5 h6 h7 h8 h9 h10 hlg tk fx xl xp rmn hdn few mst fal al sv hi sn ch my kp tx rd wy)]) H → va_D A (List.flatten [(W_M cI cC cT h0 h1 h2 h3 h4 h5 h6 h7 h8 h9 h10 hlg tk fx xl xp rmn hdn few mst fal al sv hi sn ch my kp tx rd wy)]) → va_S A s.heap H locs → ∀ (ls : Array Slot), lv_has ls 3 [(0, .ref h0)] → W p l e rm_X6_prefer s m ([.ref h0, .int p0] : List Value).toArray below meth c H locs 0 0 (MQ below (mQi D (mTY cI cC cT) out A (List.flatten [(W_M cI cC cT h0 h1 h2 h3 h4 h5 h6 h7 h8 h9 h10 o_hlg tk fx xl xp rmn hdn few mst fal o_al o_sv o_hi sn o_ch o_my kp tx rd wy)])) ([.ref h0, .int p0] : List Value).toArray s 0 0 A) (F0 m 9 ls [.int x_1]) := by
    intro H locs hP hD hS ls hl
    refine lv_istore_n (lv' := [(2, .int x_1), (0, .ref h0)]) hx hb dX6_prefer_9 rfl hl (by decide) rfl (fun ls hl => ?_)
    refine lv_aload_n hx hb dX6_prefer_10 rfl (lv_at hl 1 rfl) ?_
    refine va_get (D := D) (ci := 6) (v := .ref h1) (C := RX6) (T := TX6) (N := 20) hx hb hts hin_X6 hown hK hP 0 rfl rfl 0 (by decide) fl_7 (fun _ h9 => h9) rfl dX6_prefer_11 ?_
    refine lv_iconst (v := 1) hx hb dX6_prefer_14 (by decide) ?_
    refine va_iald hx hb hK hP 1 0 rfl rfl (i := 1) (by unfold vp_in; decide) dX6_prefer_15 ?_
    refine lv_tope (y := al 1) rfl ?_
    refine lv_iload_n hx hb dX6_prefer_16 rfl (lv_at hl 0 rfl) ?_
    refine lv_icmp_ne (tgt := 23) hx hb dX6_prefer_17 (by decide) (fun c_5 => ?_) (fun c_5 => ?_)
    · have hf := ite_f hf c_5
      refine lv_aload_n hx hb dX6_prefer_23 rfl (lv_at hl 1 rfl) ?_
      obtain ⟨sv_6, q_7, hf⟩ := bnd hf
      refine mGovS (segs := [(W_M cI cC cT h0 h1 h2 h3 h4 h5 h6 h7 h8 h9 h10 hlg tk fx xl xp rmn hdn few mst fal al sv hi sn ch my kp tx rd wy)]) (wcs := [(W_M cI cC cT h0 h1 h2 h3 h4 h5 h6 h7 h8 h9 h10 hlg tk fx xl xp rmn hdn few mst fal al sv hi sn ch my kp tx rd wy)]) (w1s := [(W_M cI cC cT h0 h1 h2 h3 h4 h5 h6 h7 h8 h9 h10 hlg tk fx xl xp rmn hdn few mst fal al sv_6 hi sn ch my kp tx rd wy)]) (w2s := [(W_M cI cC cT h0 h1 h2 h3 h4 h5 h6 h7 h8 h9 h10 hlg tk fx xl xp rmn hdn few mst fal al sv_6 hi sn ch my kp tx rd wy)]) rfl rfl (va_runV (As := []) (rest := []) ⟨hx, hb, hml, hown, hts⟩ (c_X6_remember l D cI cC cT h0 h1 h2 h3 h4 h5 h6 h7 h8 h9 h10 hlg tk fx xl xp rmn hdn few mst fal al sv hi sn ch my kp tx rd wy H.size sv_6 q_7) (cwV 0 hts gX6_prefer_X6_remember rfl rfl rfl (by decide +kernel) ⟨Nat.le_of_ble_eq_true rfl, Nat.le_of_ble_eq_true rfl⟩) (mPreVS [(W_M cI cC cT h0 h1 h2 h3 h4 h5 h6 h7 h8 h9 h10 hlg tk fx xl xp rmn hdn few mst fal al sv hi sn ch my kp tx rd wy)] rfl hP hD hK hN [0] rfl (by decide) (va_recv hK (sP hP 0 rfl) (ci := 6) (q0 := 0) rfl rfl)) rfl rfl hl.1 rfl (lv_room (Nat.le_of_ble_eq_true rfl)) dX6_prefer_24 ⟨Nat.zero_le _, Nat.zero_le _⟩) hP hD hS hA [0] rfl rfl rfl rfl (fun H locs hP hD hS => ?_)
      refine lv_aload_n hx hb dX6_prefer_27 rfl (lv_at hl 1 rfl) ?_
      refine va_get (D := D) (ci := 6) (v := .ref h1) (C := RX6) (T := TX6) (N := 20) hx hb hts hin_X6 hown hK hP 0 rfl rfl 0 (by decide) fl_7 (fun _ h9 => h9) rfl dX6_prefer_28 ?_
      refine lv_iconst (v := 1) hx hb dX6_prefer_31 (by decide) ?_
      refine lv_iload_n hx hb dX6_prefer_32 rfl (lv_at hl 0 rfl) ?_
      refine va_iast hx hb hK hP hD hS 1 0 rfl rfl (i := 1) (by unfold vp_in; decide) dX6_prefer_33 (fun H locs hP hD hS => ?_)
      have hP : va_P D vwCl (List.flatten [(W_M cI cC cT h0 h1 h2 h3 h4 h5 h6 h7 h8 h9 h10 hlg tk fx xl xp rmn hdn few mst fal (upd al 1 x_1) sv_6 hi sn ch my kp tx rd wy)]) H := hP
      have hD : va_D A (List.flatten [(W_M cI cC cT h0 h1 h2 h3 h4 h5 h6 h7 h8 h9 h10 hlg tk fx xl xp rmn hdn few mst fal (upd al 1 x_1) sv_6 hi sn ch my kp tx rd wy)]) := hD
      refine lv_aload_n hx hb dX6_prefer_34 rfl (lv_at hl 1 rfl) ?_
      obtain ⟨⟨ch_8, my_9⟩, q_10, hf⟩ := bnd hf
      refine mGovS (segs := [(W_M cI cC cT h0 h1 h2 h3 h4 h5 h6 h7 h8 h9 h10 hlg tk fx xl xp rmn hdn few mst fal (upd al 1 x_1) sv_6 hi sn ch my kp tx rd wy)]) (wcs := [(W_M cI cC cT h0 h1 h2 h3 h4 h5 h6 h7 h8 h9 h10 hlg tk fx xl xp rmn hdn few mst fal (upd al 1 x_1) sv_6 hi sn ch my kp tx rd wy)]) (w1s := [(W_M cI cC cT h0 h1 h2 h3 h4 h5 h6 h7 h8 h9 h10 hlg tk fx xl xp rmn hdn few mst fal (upd al 1 x_1) sv_6 hi sn ch_8 my_9 kp tx rd wy)]) (w2s := [(W_M cI cC cT h0 h1 h2 h3 h4 h5 h6 h7 h8 h9 h10 hlg tk fx xl xp rmn hdn few mst fal (upd al 1 x_1) sv_6 hi sn ch_8 my_9 kp tx rd wy)]) rfl rfl (va_runV (As := []) (rest := []) ⟨hx, hb, hml, hown, hts⟩ (c_X6_findsChoices l D cI cC cT h0 h1 h2 h3 h4 h5 h6 h7 h8 h9 h10 hlg tk fx xl xp rmn hdn few mst fal (upd al 1 x_1) sv_6 hi sn ch my kp tx rd wy H.size ch_8 my_9 q_10) (cwV 0 hts gX6_prefer_X6_findsChoices rfl rfl rfl (by decide +kernel) ⟨Nat.le_of_ble_eq_true rfl, Nat.le_of_ble_eq_true rfl⟩) (mPreVS [(W_M cI cC cT h0 h1 h2 h3 h4 h5 h6 h7 h8 h9 h10 hlg tk fx xl xp rmn hdn few mst fal (upd al 1 x_1) sv_6 hi sn ch my kp tx rd wy)] rfl hP hD hK hN [0] rfl (by decide) (va_recv hK (sP hP 0 rfl) (ci := 6) (q0 := 0) rfl rfl)) rfl rfl hl.1 rfl (lv_room (Nat.le_of_ble_eq_true rfl)) dX6_prefer_35 ⟨Nat.zero_le _, Nat.zero_le _⟩) hP hD hS hA [0] rfl rfl rfl rfl (fun H locs hP hD hS => ?_)
      refine lv_aload_n hx hb dX6_prefer_38 rfl (lv_at hl 1 rfl) ?_
      refine lv_aload_n hx hb dX6_prefer_39 rfl (lv_at hl 1 rfl) ?_
      obtain ⟨r_11, q_12, hf⟩ := bnd hf
      refine mGoiS (segs := [(W_M cI cC cT h0 h1 h2 h3 h4 h5 h6 h7 h8 h9 h10 hlg tk fx xl xp rmn hdn few mst fal (upd al 1 x_1) sv_6 hi sn ch_8 my_9 kp tx rd wy)]) (wcs := [(W_M cI cC cT h0 h1 h2 h3 h4 h5 h6 h7 h8 h9 h10 hlg tk fx xl xp rmn hdn few mst fal (upd al 1 x_1) sv_6 hi sn ch_8 my_9 kp tx rd wy)]) (w1s := [(W_M cI cC cT h0 h1 h2 h3 h4 h5 h6 h7 h8 h9 h10 hlg tk fx xl xp rmn hdn few mst fal (upd al 1 x_1) sv_6 hi sn ch_8 my_9 kp tx rd wy)]) (w2s := [(W_M cI cC cT h0 h1 h2 h3 h4 h5 h6 h7 h8 h9 h10 hlg tk fx xl xp rmn hdn few mst fal (upd al 1 x_1) sv_6 hi sn ch_8 my_9 kp tx rd wy)]) rfl rfl (va_runV (As := []) (rest := [.ref h0]) ⟨hx, hb, hml, hown, hts⟩ (c_X6_mendings l D cI cC cT h0 h1 h2 h3 h4 h5 h6 h7 h8 h9 h10 hlg tk fx xl xp rmn hdn few mst fal (upd al 1 x_1) sv_6 hi sn ch_8 my_9 kp tx rd wy H.size r_11 q_12) (cwV 0 hts gX6_prefer_X6_mendings rfl rfl rfl (by decide +kernel) ⟨Nat.le_of_ble_eq_true rfl, Nat.le_of_ble_eq_true rfl⟩) (mPreVS [(W_M cI cC cT h0 h1 h2 h3 h4 h5 h6 h7 h8 h9 h10 hlg tk fx xl xp rmn hdn few mst fal (upd al 1 x_1) sv_6 hi sn ch_8 my_9 kp tx rd wy)] rfl hP hD hK hN [0] rfl (by decide) (va_recv hK (sP hP 0 rfl) (ci := 6) (q0 := 0) rfl rfl)) rfl rfl hl.1 rfl (lv_room (Nat.le_of_ble_eq_true rfl)) dX6_prefer_40 ⟨Nat.zero_le _, Nat.zero_le _⟩) hP hD hS hA [0] rfl rfl rfl rfl (fun H locs hP hD hS => ?_)
      obtain ⟨⟨r_13, hlg_14, hi_15⟩, q_16, hf⟩ := bnd hf
      refine mGoiS (segs := [(W_M cI cC cT h0 h1 h2 h3 h4 h5 h6 h7 h8 h9 h10 hlg tk fx xl xp rmn hdn few mst fal (upd al 1 x_1) sv_6 hi sn ch_8 my_9 kp tx rd wy)]) (wcs := [(W_M cI cC cT h0 h1 h2 h3 h4 h5 h6 h7 h8 h9 h10 hlg tk fx xl xp rmn hdn few mst fal (upd al 1 x_1) sv_6 hi sn ch_8 my_9 kp tx rd wy)]) (w1s := [(W_M cI cC cT h0 h1 h2 h3 h4 h5 h6 h7 h8 h9 h10 hlg_14 tk fx xl xp rmn hdn few mst fal (upd al 1 x_1) sv_6 hi_15 sn ch_8 my_9 kp tx rd wy)]) (w2s := [(W_M cI cC cT h0 h1 h2 h3 h4 h5 h6 h7 h8 h9 h10 hlg_14 tk fx xl xp rmn hdn few mst fal (upd al 1 x_1) sv_6 hi_15 sn ch_8 my_9 kp tx rd wy)]) rfl rfl (va_runV (As := [.int r_11]) (rest := []) ⟨hx, hb, hml, hown, hts⟩ (c_X6_acted l D cI cC cT h0 h1 h2 h3 h4 h5 h6 h7 h8 h9 h10 hlg tk fx xl xp rmn hdn few mst fal (upd al 1 x_1) sv_6 hi sn ch_8 my_9 kp tx rd wy H.size r_11 r_13 hlg_14 hi_15 q_16) (cwV 1 hts gX6_prefer_X6_acted rfl rfl rfl (by decide +kernel) ⟨Nat.le_of_ble_eq_true rfl, Nat.le_of_ble_eq_true rfl⟩) (mPreVS [(W_M cI cC cT h0 h1 h2 h3 h4 h5 h6 h7 h8 h9 h10 hlg tk fx xl xp rmn hdn few mst fal (upd al 1 x_1) sv_6 hi sn ch_8 my_9 kp tx rd wy)] rfl hP hD hK hN [0] rfl (by decide) (va_recv hK (sP hP 0 rfl) (ci := 6) (q0 := 0) rfl rfl)) rfl rfl hl.1 rfl (lv_room (Nat.le_of_ble_eq_true rfl)) dX6_prefer_43 ⟨Nat.zero_le _, Nat.zero_le _⟩) hP hD hS hA [0] rfl rfl rfl rfl (fun H locs hP hD hS => ?_)
      cases hf
      exact mIret hx hb hr hlocks hP hD hK hS dX6_prefer_46
    · have hf := ite_t hf c_5
      refine lv_bipush (v := -5) hx hb dX6_prefer_20 (by decide) ?_
      cases hf
      exact mIret hx hb hr hlocks hP hD hK hS dX6_prefer_22
  have hf := q_3
  refine lv_if_eq (tgt := 8) hx hb dX6_prefer_1 (by decide) (fun c_4 => ?_) (fun c_4 => ?_)
  · have hf := ite_t hf c_4
    refine lv_iconst (v := 0) hx hb dX6_prefer_8 (by decide) ?_
    cases hf
    exact K_2 _ _ hP hD hS _ (lv_sub hl [0] rfl)
  · have hf := ite_f hf c_4
    refine lv_iconst (v := 1) hx hb dX6_prefer_4 (by decide) ?_
    refine lv_goto (tgt := 9) hx hb dX6_prefer_5 (by decide) ?_
    cases hf
    exact K_2 _ _ hP hD hS _ (lv_sub hl [0] rfl)
abbrev rm_X6_readRows : Room := { frames := 5, cells := 0, slots := 0, locals := 112 }
set_option maxHeartbeats 4000000 in
set_option maxRecDepth 100000 in
theorem c_X6_readRows (l : Launch) (D : va_G) (cI cC cT : ClassId) (h0 h1 h2 h3 h4 h5 h6 h7 h8 h9 h10 : Nat) (hlg : Int32) (tk : Int32) (fx : Int32) (xl : Int32) (xp : Int32) (rmn : Int32) (hdn : Int32) (few : Int32) (mst : Int32) (fal : Int32) (al : Nat → Int32) (sv : Nat → Int32) (hi : Nat → Int32) (sn : Nat → Int32) (ch : Nat → Int32) (my : Nat → Int32) (kp : Nat → Int32) (tx : Nat → Int32) (rd : Nat → Int32) (wy : Nat → Int32) (sz : Nat) (out : Int32) (o_hlg : Int32) (o_xp : Int32) (o_rmn : Int32) (o_al : Nat → Int32) (o_sv : Nat → Int32) (o_hi : Nat → Int32) (o_rd : Nat → Int32) (hf : f_X6_readRows hlg xl al sv hi tx rd = some ((out, o_hlg, o_xp, o_rmn, o_al, o_sv, o_hi, o_rd))) : Met l yX6_readRows wsX6_readRows rm_X6_readRows (mP D (mTY cI cC cT) [.ref h0] (List.flatten [(W_M cI cC cT h0 h1 h2 h3 h4 h5 h6 h7 h8 h9 h10 hlg tk fx xl xp rmn hdn few mst fal al sv hi sn ch my kp tx rd wy)]) sz) (mQi D (mTY cI cC cT) out (va_A (List.flatten [(W_M cI cC cT h0 h1 h2 h3 h4 h5 h6 h7 h8 h9 h10 hlg tk fx xl xp rmn hdn few mst fal al sv hi sn ch my kp tx rd wy)]) sz) (List.flatten [(W_M cI cC cT h0 h1 h2 h3 h4 h5 h6 h7 h8 h9 h10 o_hlg tk fx xl o_xp o_rmn hdn few mst fal o_al o_sv o_hi sn ch my kp tx o_rd wy)])) 0 0 (va_A (List.flatten [(W_M cI cC cT h0 h1 h2 h3 h4 h5 h6 h7 h8 h9 h10 hlg tk fx xl xp rmn hdn few mst fal al sv hi sn ch my kp tx rd wy)]) sz) := by
  refine mEnt (cc := cX6_readRows) (maxL := 3) (ret := (some .int)) (own := RX6) (Qq := fun A => mQi D (mTY cI cC cT) out A (List.flatten [(W_M cI cC cT h0 h1 h2 h3 h4 h5 h6 h7 h8 h9 h10 o_hlg tk fx xl o_xp o_rmn hdn few mst fal o_al o_sv o_hi sn ch my kp tx o_rd wy)])) (by decide) rfl rfl (Nat.le_of_ble_eq_true rfl) ?_
  intro p e s m below meth c A ls H locs hx hb hr hml hlocks hown hts hN hA hP hK hD hS hl
  have hin_X6 : ∀ w ∈ u_ws RX6 TX6 20, w ∈ wsX6_readRows := by decide +kernel
  have fl_7 := hts (.fieldLink RX6 7 "SureMendingsModel" "all" "[I") (by decide +kernel)
  have fl_38 := hts (.fieldLink RX6 38 "SureMendingsModel" "read" "[I") (by decide +kernel)
  have fl_126 := hts (.fieldLink RX6 126 "SureMendingsModel" "readMany" "I") (by decide +kernel)
  have hl : lv_has ls 3 [(0, .ref h0)] := hl
  unfold f_X6_readRows at hf
  refine lv_aload_n hx hb dX6_readRows_0 rfl (lv_at hl 0 rfl) ?_
  obtain ⟨⟨r_1, xp_2, rmn_3, rd_4⟩, q_5, hf⟩ := bnd hf
  refine mGoiS (segs := [(W_M cI cC cT h0 h1 h2 h3 h4 h5 h6 h7 h8 h9 h10 hlg tk fx xl xp rmn hdn few mst fal al sv hi sn ch my kp tx rd wy)]) (wcs := [(W_M cI cC cT h0 h1 h2 h3 h4 h5 h6 h7 h8 h9 h10 hlg tk fx xl xp rmn hdn few mst fal al sv hi sn ch my kp tx rd wy)]) (w1s := [(W_M cI cC cT h0 h1 h2 h3 h4 h5 h6 h7 h8 h9 h10 hlg tk fx xl xp_2 rmn_3 hdn few mst fal al sv hi sn ch my kp tx rd_4 wy)]) (w2s := [(W_M cI cC cT h0 h1 h2 h3 h4 h5 h6 h7 h8 h9 h10 hlg tk fx xl xp_2 rmn_3 hdn few mst fal al sv hi sn ch my kp tx rd_4 wy)]) rfl rfl (va_runV (As := []) (rest := []) ⟨hx, hb, hml, hown, hts⟩ (c_X6_fault l D cI cC cT h0 h1 h2 h3 h4 h5 h6 h7 h8 h9 h10 hlg tk fx xl xp rmn hdn few mst fal al sv hi sn ch my kp tx rd wy H.size r_1 xp_2 rmn_3 rd_4 q_5) (cwV 0 hts gX6_readRows_X6_fault rfl rfl rfl (by decide +kernel) ⟨Nat.le_of_ble_eq_true rfl, Nat.le_of_ble_eq_true rfl⟩) (mPreVS [(W_M cI cC cT h0 h1 h2 h3 h4 h5 h6 h7 h8 h9 h10 hlg tk fx xl xp rmn hdn few mst fal al sv hi sn ch my kp tx rd wy)] rfl hP hD hK hN [0] rfl (by decide) (va_recv hK (sP hP 0 rfl) (ci := 6) (q0 := 0) rfl rfl)) rfl rfl hl.1 rfl (lv_room (Nat.le_of_ble_eq_true rfl)) dX6_readRows_1 ⟨Nat.zero_le _, Nat.zero_le _⟩) hP hD hS hA [0] rfl rfl rfl rfl (fun H locs hP hD hS => ?_)
  refine lv_istore_n (lv' := [(1, .int r_1), (0, .ref h0)]) hx hb dX6_readRows_4 rfl hl (by decide) rfl (fun ls hl => ?_)
  refine lv_iload_n hx hb dX6_readRows_5 rfl (lv_at hl 0 rfl) ?_
  refine lv_bipush (v := -5) hx hb dX6_readRows_6 (by decide) ?_
  refine lv_icmp_eq (tgt := 16) hx hb dX6_readRows_8 (by decide) (fun c_6 => ?_) (fun c_6 => ?_)
  · have hf := ite_t hf c_6
    refine lv_aload_n hx hb dX6_readRows_16 rfl (lv_at hl 1 rfl) ?_
    refine va_get (D := D) (ci := 6) (v := .ref h1) (C := RX6) (T := TX6) (N := 20) hx hb hts hin_X6 hown hK hP 0 rfl rfl 0 (by decide) fl_7 (fun _ h9 => h9) rfl dX6_readRows_17 ?_
    refine lv_iconst (v := 0) hx hb dX6_readRows_20 (by decide) ?_
    refine va_iald hx hb hK hP 1 0 rfl rfl (i := 0) (by unfold vp_in; decide) dX6_readRows_21 ?_
    refine lv_tope (y := al 0) rfl ?_
    refine lv_aload_n hx hb dX6_readRows_22 rfl (lv_at hl 1 rfl) ?_
    refine va_get (D := D) (ci := 6) (v := .int rmn_3) (C := RX6) (T := TX6) (N := 20) hx hb hts hin_X6 hown hK hP 0 rfl rfl 14 (by decide) fl_126 (fun _ h9 => h9) rfl dX6_readRows_23 ?_
    refine lv_iadd hx hb dX6_readRows_26 ?_
    refine lv_bipush (v := 20) hx hb dX6_readRows_27 (by decide) ?_
    refine lv_icmp_le (tgt := 35) hx hb dX6_readRows_29 (by decide) (fun c_7 => ?_) (fun c_7 => ?_)
    · have hf := ite_t hf c_7
      refine lv_aload_n hx hb dX6_readRows_35 rfl (lv_at hl 1 rfl) ?_
      obtain ⟨sv_8, q_9, hf⟩ := bnd hf
      refine mGovS (segs := [(W_M cI cC cT h0 h1 h2 h3 h4 h5 h6 h7 h8 h9 h10 hlg tk fx xl xp_2 rmn_3 hdn few mst fal al sv hi sn ch my kp tx rd_4 wy)]) (wcs := [(W_M cI cC cT h0 h1 h2 h3 h4 h5 h6 h7 h8 h9 h10 hlg tk fx xl xp_2 rmn_3 hdn few mst fal al sv hi sn ch my kp tx rd_4 wy)]) (w1s := [(W_M cI cC cT h0 h1 h2 h3 h4 h5 h6 h7 h8 h9 h10 hlg tk fx xl xp_2 rmn_3 hdn few mst fal al sv_8 hi sn ch my kp tx rd_4 wy)]) (w2s := [(W_M cI cC cT h0 h1 h2 h3 h4 h5 h6 h7 h8 h9 h10 hlg tk fx xl xp_2 rmn_3 hdn few mst fal al sv_8 hi sn ch my kp tx rd_4 wy)]) rfl rfl (va_runV (As := []) (rest := []) ⟨hx, hb, hml, hown, hts⟩ (c_X6_remember l D cI cC cT h0 h1 h2 h3 h4 h5 h6 h7 h8 h9 h10 hlg tk fx xl xp_2 rmn_3 hdn few mst fal al sv hi sn ch my kp tx rd_4 wy H.size sv_8 q_9) (cwV 0 hts gX6_readRows_X6_remember rfl rfl rfl (by decide +kernel) ⟨Nat.le_of_ble_eq_true rfl, Nat.le_of_ble_eq_true rfl⟩) (mPreVS [(W_M cI cC cT h0 h1 h2 h3 h4 h5 h6 h7 h8 h9 h10 hlg tk fx xl xp_2 rmn_3 hdn few mst fal al sv hi sn ch my kp tx rd_4 wy)] rfl hP hD hK hN [0] rfl (by decide) (va_recv hK (sP hP 0 rfl) (ci := 6) (q0 := 0) rfl rfl)) rfl rfl hl.1 rfl (lv_room (Nat.le_of_ble_eq_true rfl)) dX6_readRows_36 ⟨Nat.zero_le _, Nat.zero_le _⟩) hP hD hS hA [0] rfl rfl rfl rfl (fun H locs hP hD hS => ?_)
      refine lv_iconst (v := 0) hx hb dX6_readRows_39 (by decide) ?_
      refine lv_istore_n (lv' := [(2, .int 0), (1, .int r_1), (0, .ref h0)]) hx hb dX6_readRows_40 rfl hl (by decide) rfl (fun ls hl => ?_)
      have LP_12 : ∀ (n_12 : Nat) (v2_10 : Int32) (al_11 : Nat → Int32), iter n_12 (b_X6_readRows_1 hlg hi rmn_3 sv_8 xp_2 rd_4) ((v2_10, al_11)) = some ((out, o_hlg, o_xp, o_rmn, o_al, o_sv, o_hi, o_rd)) → ∀ (H : Heap) (locs : List Loc), va_P D vwCl (List.flatten [(W_M cI cC cT h0 h1 h2 h3 h4 h5 h6 h7 h8 h9 h10 hlg tk fx xl xp_2 rmn_3 hdn few mst fal al_11 sv_8 hi sn ch my kp tx rd_4 wy)]) H → va_D A (List.flatten [(W_M cI cC cT h0 h1 h2 h3 h4 h5 h6 h7 h8 h9 h10 hlg tk fx xl xp_2 rmn_3 hdn few mst fal al_11 sv_8 hi sn ch my kp tx rd_4 wy)]) → va_S A s.heap H locs → ∀ (ls : Array Slot), lv_has ls 3 [(0, .ref h0), (2, .int v2_10)] → W p l e rm_X6_readRows s m ([.ref h0] : List Value).toArray below meth c H locs 0 0 (MQ below (mQi D (mTY cI cC cT) out A (List.flatten [(W_M cI cC cT h0 h1 h2 h3 h4 h5 h6 h7 h8 h9 h10 o_hlg tk fx xl o_xp o_rmn hdn few mst fal o_al o_sv o_hi sn ch my kp tx o_rd wy)])) ([.ref h0] : List Value).toArray s 0 0 A) (F0 m 41 ls []) := by
        intro n_12
        induction n_12 with
        | zero => intro v2_10 al_11 hf; exact (iter_zero hf).elim
        | succ n_12 ih_12 =>
          intro v2_10 al_11 hf H locs hP hD hS ls hl
          obtain ⟨o_12, hf, ho_12⟩ := iter_succ hf
          dsimp only [b_X6_readRows_1] at hf
          refine lv_iload_n hx hb dX6_readRows_41 rfl (lv_at hl 1 rfl) ?_
          refine lv_iconst (v := 4) hx hb dX6_readRows_42 (by decide) ?_
          refine lv_aload_n hx hb dX6_readRows_43 rfl (lv_at hl 0 rfl) ?_
          refine va_get (D := D) (ci := 6) (v := .int rmn_3) (C := RX6) (T := TX6) (N := 20) hx hb hts hin_X6 hown hK hP 0 rfl rfl 14 (by decide) fl_126 (fun _ h9 => h9) rfl dX6_readRows_44 ?_
          refine lv_imul hx hb dX6_readRows_47 ?_
          refine lv_icmp_ge (tgt := 91) hx hb dX6_readRows_48 (by decide) (fun c_13 => ?_) (fun c_13 => ?_)
          · have hf := ite_t hf c_13
            refine lv_aload_n hx hb dX6_readRows_91 rfl (lv_at hl 0 rfl) ?_
            refine lv_aload_n hx hb dX6_readRows_92 rfl (lv_at hl 0 rfl) ?_
            refine va_get (D := D) (ci := 6) (v := .ref h1) (C := RX6) (T := TX6) (N := 20) hx hb hts hin_X6 hown hK hP 0 rfl rfl 0 (by decide) fl_7 (fun _ h9 => h9) rfl dX6_readRows_93 ?_
            refine lv_iconst (v := 0) hx hb dX6_readRows_96 (by decide) ?_
            refine va_iald hx hb hK hP 1 0 rfl rfl (i := 0) (by unfold vp_in; decide) dX6_readRows_97 ?_
            refine lv_tope (y := al_11 0) rfl ?_
            obtain ⟨⟨r_14, hlg_15, hi_16⟩, q_17, hf⟩ := bnd hf
            refine mGoiS (segs := [(W_M cI cC cT h0 h1 h2 h3 h4 h5 h6 h7 h8 h9 h10 hlg tk fx xl xp_2 rmn_3 hdn few mst fal al_11 sv_8 hi sn ch my kp tx rd_4 wy)]) (wcs := [(W_M cI cC cT h0 h1 h2 h3 h4 h5 h6 h7 h8 h9 h10 hlg tk fx xl xp_2 rmn_3 hdn few mst fal al_11 sv_8 hi sn ch my kp tx rd_4 wy)]) (w1s := [(W_M cI cC cT h0 h1 h2 h3 h4 h5 h6 h7 h8 h9 h10 hlg_15 tk fx xl xp_2 rmn_3 hdn few mst fal al_11 sv_8 hi_16 sn ch my kp tx rd_4 wy)]) (w2s := [(W_M cI cC cT h0 h1 h2 h3 h4 h5 h6 h7 h8 h9 h10 hlg_15 tk fx xl xp_2 rmn_3 hdn few mst fal al_11 sv_8 hi_16 sn ch my kp tx rd_4 wy)]) rfl rfl (va_runV (As := [.int (al_11 0)]) (rest := []) ⟨hx, hb, hml, hown, hts⟩ (c_X6_acted l D cI cC cT h0 h1 h2 h3 h4 h5 h6 h7 h8 h9 h10 hlg tk fx xl xp_2 rmn_3 hdn few mst fal al_11 sv_8 hi sn ch my kp tx rd_4 wy H.size (al_11 0) r_14 hlg_15 hi_16 q_17) (cwV 1 hts gX6_readRows_X6_acted rfl rfl rfl (by decide +kernel) ⟨Nat.le_of_ble_eq_true rfl, Nat.le_of_ble_eq_true rfl⟩) (mPreVS [(W_M cI cC cT h0 h1 h2 h3 h4 h5 h6 h7 h8 h9 h10 hlg tk fx xl xp_2 rmn_3 hdn few mst fal al_11 sv_8 hi sn ch my kp tx rd_4 wy)] rfl hP hD hK hN [0] rfl (by decide) (va_recv hK (sP hP 0 rfl) (ci := 6) (q0 := 0) rfl rfl)) rfl rfl hl.1 rfl (lv_room (Nat.le_of_ble_eq_true rfl)) dX6_readRows_98 ⟨Nat.zero_le _, Nat.zero_le _⟩) hP hD hS hA [0] rfl rfl rfl rfl (fun H locs hP hD hS => ?_)
            cases hf
            have hf := ho_12.2 _ rfl
            cases hf
            exact mIret hx hb hr hlocks hP hD hK hS dX6_readRows_101
          · have hf := ite_f hf c_13
            refine lv_aload_n hx hb dX6_readRows_51 rfl (lv_at hl 0 rfl) ?_
            refine lv_aload_n hx hb dX6_readRows_52 rfl (lv_at hl 0 rfl) ?_
            refine va_get (D := D) (ci := 6) (v := .ref h9) (C := RX6) (T := TX6) (N := 20) hx hb hts hin_X6 hown hK hP 0 rfl rfl 13 (by decide) fl_38 (fun _ h9 => h9) rfl dX6_readRows_53 ?_
            refine lv_iload_n hx hb dX6_readRows_56 rfl (lv_at hl 1 rfl) ?_
            obtain ⟨h_18, hf⟩ := grd hf
            refine va_iald hx hb hK hP 9 0 rfl rfl h_18 dX6_readRows_57 ?_
            refine lv_aload_n hx hb dX6_readRows_58 rfl (lv_at hl 0 rfl) ?_
            refine va_get (D := D) (ci := 6) (v := .ref h9) (C := RX6) (T := TX6) (N := 20) hx hb hts hin_X6 hown hK hP 0 rfl rfl 13 (by decide) fl_38 (fun _ h9 => h9) rfl dX6_readRows_59 ?_
            refine lv_iload_n hx hb dX6_readRows_62 rfl (lv_at hl 1 rfl) ?_
            refine lv_iconst (v := 1) hx hb dX6_readRows_63 (by decide) ?_
            refine lv_iadd hx hb dX6_readRows_64 ?_
            obtain ⟨h_19, hf⟩ := grd hf
            refine va_iald hx hb hK hP 9 0 rfl rfl h_19 dX6_readRows_65 ?_
            refine lv_aload_n hx hb dX6_readRows_66 rfl (lv_at hl 0 rfl) ?_
            refine va_get (D := D) (ci := 6) (v := .ref h9) (C := RX6) (T := TX6) (N := 20) hx hb hts hin_X6 hown hK hP 0 rfl rfl 13 (by decide) fl_38 (fun _ h9 => h9) rfl dX6_readRows_67 ?_
            refine lv_iload_n hx hb dX6_readRows_70 rfl (lv_at hl 1 rfl) ?_
            refine lv_iconst (v := 2) hx hb dX6_readRows_71 (by decide) ?_
            refine lv_iadd hx hb dX6_readRows_72 ?_
            obtain ⟨h_20, hf⟩ := grd hf
            refine va_iald hx hb hK hP 9 0 rfl rfl h_20 dX6_readRows_73 ?_
            refine lv_aload_n hx hb dX6_readRows_74 rfl (lv_at hl 0 rfl) ?_
            refine va_get (D := D) (ci := 6) (v := .ref h9) (C := RX6) (T := TX6) (N := 20) hx hb hts hin_X6 hown hK hP 0 rfl rfl 13 (by decide) fl_38 (fun _ h9 => h9) rfl dX6_readRows_75 ?_
            refine lv_iload_n hx hb dX6_readRows_78 rfl (lv_at hl 1 rfl) ?_
            refine lv_iconst (v := 3) hx hb dX6_readRows_79 (by decide) ?_
            refine lv_iadd hx hb dX6_readRows_80 ?_
            obtain ⟨h_21, hf⟩ := grd hf
            refine va_iald hx hb hK hP 9 0 rfl rfl h_21 dX6_readRows_81 ?_
            obtain ⟨al_22, q_23, hf⟩ := bnd hf
            refine mGovS (segs := [(W_M cI cC cT h0 h1 h2 h3 h4 h5 h6 h7 h8 h9 h10 hlg tk fx xl xp_2 rmn_3 hdn few mst fal al_11 sv_8 hi sn ch my kp tx rd_4 wy)]) (wcs := [(W_M cI cC cT h0 h1 h2 h3 h4 h5 h6 h7 h8 h9 h10 hlg tk fx xl xp_2 rmn_3 hdn few mst fal al_11 sv_8 hi sn ch my kp tx rd_4 wy)]) (w1s := [(W_M cI cC cT h0 h1 h2 h3 h4 h5 h6 h7 h8 h9 h10 hlg tk fx xl xp_2 rmn_3 hdn few mst fal al_22 sv_8 hi sn ch my kp tx rd_4 wy)]) (w2s := [(W_M cI cC cT h0 h1 h2 h3 h4 h5 h6 h7 h8 h9 h10 hlg tk fx xl xp_2 rmn_3 hdn few mst fal al_22 sv_8 hi sn ch my kp tx rd_4 wy)]) rfl rfl (va_runV (As := [.int (rd_4 v2_10.toNatClampNeg), .int (rd_4 (v2_10 + 1).toNatClampNeg), .int (rd_4 (v2_10 + 2).toNatClampNeg), .int (rd_4 (v2_10 + 3).toNatClampNeg)]) (rest := []) ⟨hx, hb, hml, hown, hts⟩ (c_X6_puts l D cI cC cT h0 h1 h2 h3 h4 h5 h6 h7 h8 h9 h10 hlg tk fx xl xp_2 rmn_3 hdn few mst fal al_11 sv_8 hi sn ch my kp tx rd_4 wy H.size (rd_4 v2_10.toNatClampNeg) (rd_4 (v2_10 + 1).toNatClampNeg) (rd_4 (v2_10 + 2).toNatClampNeg) (rd_4 (v2_10 + 3).toNatClampNeg) al_22 q_23) (cwV 4 hts gX6_readRows_X6_puts rfl rfl rfl (by decide +kernel) ⟨Nat.le_of_ble_eq_true rfl, Nat.le_of_ble_eq_true rfl⟩) (mPreVS [(W_M cI cC cT h0 h1 h2 h3 h4 h5 h6 h7 h8 h9 h10 hlg tk fx xl xp_2 rmn_3 hdn few mst fal al_11 sv_8 hi sn ch my kp tx rd_4 wy)] rfl hP hD hK hN [0] rfl (by decide) (va_recv hK (sP hP 0 rfl) (ci := 6) (q0 := 0) rfl rfl)) rfl rfl hl.1 rfl (lv_room (Nat.le_of_ble_eq_true rfl)) dX6_readRows_82 ⟨Nat.zero_le _, Nat.zero_le _⟩) hP hD hS hA [0] rfl rfl rfl rfl (fun H locs hP hD hS => ?_)
            refine lv_iinc (v := v2_10 + 4) (lv' := [(2, .int (v2_10 + 4)), (0, .ref h0)]) hx hb dX6_readRows_85 hl (k := 1) rfl rfl (by decide) rfl (fun ls hl => ?_)
            refine lv_goto (tgt := 41) hx hb dX6_readRows_88 (by decide) ?_
            cases hf
            have hf := ho_12.1 _ rfl
            exact ih_12 _ _ hf _ _ hP hD hS _ (lv_sub hl [1, 0] rfl)
      exact LP_12 _ _ _ hf _ _ hP hD hS _ (lv_sub hl [2, 0] rfl)
    · have hf := ite_f hf c_7
      refine lv_bipush (v := -3) hx hb dX6_readRows_32 (by decide) ?_
      cases hf
      exact mIret hx hb hr hlocks hP hD hK hS dX6_readRows_34
  · have hf := ite_f hf c_6
    refine lv_bipush (v := -100) hx hb dX6_readRows_11 (by decide) ?_
    refine lv_iload_n hx hb dX6_readRows_13 rfl (lv_at hl 0 rfl) ?_
    refine lv_isub hx hb dX6_readRows_14 ?_
    generalize (-100 : Int32) - r_1 = zz at hf ⊢
    cases hf
    exact mIret hx hb hr hlocks hP hD hK hS dX6_readRows_15
abbrev rm_X6_remove : Room := { frames := 2, cells := 0, slots := 0, locals := 46 }
set_option maxHeartbeats 4000000 in
set_option maxRecDepth 100000 in
theorem c_X6_remove (l : Launch) (D : va_G) (cI cC cT : ClassId) (h0 h1 h2 h3 h4 h5 h6 h7 h8 h9 h10 : Nat) (hlg : Int32) (tk : Int32) (fx : Int32) (xl : Int32) (xp : Int32) (rmn : Int32) (hdn : Int32) (few : Int32) (mst : Int32) (fal : Int32) (al : Nat → Int32) (sv : Nat → Int32) (hi : Nat → Int32) (sn : Nat → Int32) (ch : Nat → Int32) (my : Nat → Int32) (kp : Nat → Int32) (tx : Nat → Int32) (rd : Nat → Int32) (wy : Nat → Int32) (sz : Nat) (p0 : Int32) (out : Int32) (o_hlg : Int32) (o_al : Nat → Int32) (o_sv : Nat → Int32) (o_hi : Nat → Int32) (hf : f_X6_remove hlg al sv hi p0 = some ((out, o_hlg, o_al, o_sv, o_hi))) : Met l yX6_remove wsX6_remove rm_X6_remove (mP D (mTY cI cC cT) [.ref h0, .int p0] (List.flatten [(W_M cI cC cT h0 h1 h2 h3 h4 h5 h6 h7 h8 h9 h10 hlg tk fx xl xp rmn hdn few mst fal al sv hi sn ch my kp tx rd wy)]) sz) (mQi D (mTY cI cC cT) out (va_A (List.flatten [(W_M cI cC cT h0 h1 h2 h3 h4 h5 h6 h7 h8 h9 h10 hlg tk fx xl xp rmn hdn few mst fal al sv hi sn ch my kp tx rd wy)]) sz) (List.flatten [(W_M cI cC cT h0 h1 h2 h3 h4 h5 h6 h7 h8 h9 h10 o_hlg tk fx xl xp rmn hdn few mst fal o_al o_sv o_hi sn ch my kp tx rd wy)])) 0 0 (va_A (List.flatten [(W_M cI cC cT h0 h1 h2 h3 h4 h5 h6 h7 h8 h9 h10 hlg tk fx xl xp rmn hdn few mst fal al sv hi sn ch my kp tx rd wy)]) sz) := by
  refine mEnt (cc := cX6_remove) (maxL := 2) (ret := (some .int)) (own := RX6) (Qq := fun A => mQi D (mTY cI cC cT) out A (List.flatten [(W_M cI cC cT h0 h1 h2 h3 h4 h5 h6 h7 h8 h9 h10 o_hlg tk fx xl xp rmn hdn few mst fal o_al o_sv o_hi sn ch my kp tx rd wy)])) (by decide) rfl rfl (Nat.le_of_ble_eq_true rfl) ?_
  intro p e s m below meth c A ls H locs hx hb hr hml hlocks hown hts hN hA hP hK hD hS hl
  have hin_X6 : ∀ w ∈ u_ws RX6 TX6 20, w ∈ wsX6_remove := by decide +kernel
  have fl_7 := hts (.fieldLink RX6 7 "SureMendingsModel" "all" "[I") (by decide +kernel)
  have hl : lv_has ls 2 [(0, .ref h0), (1, .int p0)] := hl
  unfold f_X6_remove at hf
  refine lv_aload_n hx hb dX6_remove_0 rfl (lv_at hl 0 rfl) ?_
  refine lv_iload_n hx hb dX6_remove_1 rfl (lv_at hl 1 rfl) ?_
  obtain ⟨r_1, q_2, hf⟩ := bnd hf
  refine mGoiS (segs := [(W_M cI cC cT h0 h1 h2 h3 h4 h5 h6 h7 h8 h9 h10 hlg tk fx xl xp rmn hdn few mst fal al sv hi sn ch my kp tx rd wy)]) (wcs := [(W_M cI cC cT h0 h1 h2 h3 h4 h5 h6 h7 h8 h9 h10 hlg tk fx xl xp rmn hdn few mst fal al sv hi sn ch my kp tx rd wy)]) (w1s := [(W_M cI cC cT h0 h1 h2 h3 h4 h5 h6 h7 h8 h9 h10 hlg tk fx xl xp rmn hdn few mst fal al sv hi sn ch my kp tx rd wy)]) (w2s := [(W_M cI cC cT h0 h1 h2 h3 h4 h5 h6 h7 h8 h9 h10 hlg tk fx xl xp rmn hdn few mst fal al sv hi sn ch my kp tx rd wy)]) rfl rfl (va_runV (As := [.int p0]) (rest := []) ⟨hx, hb, hml, hown, hts⟩ (c_X6_isRow l D cI cC cT h0 h1 h2 h3 h4 h5 h6 h7 h8 h9 h10 hlg tk fx xl xp rmn hdn few mst fal al sv hi sn ch my kp tx rd wy H.size p0 r_1 q_2) (cwV 1 hts gX6_remove_X6_isRow rfl rfl rfl (by decide +kernel) ⟨Nat.le_of_ble_eq_true rfl, Nat.le_of_ble_eq_true rfl⟩) (mPreVS [(W_M cI cC cT h0 h1 h2 h3 h4 h5 h6 h7 h8 h9 h10 hlg tk fx xl xp rmn hdn few mst fal al sv hi sn ch my kp tx rd wy)] rfl hP hD hK hN [0] rfl (by decide) (va_recv hK (sP hP 0 rfl) (ci := 6) (q0 := 0) rfl rfl)) rfl rfl hl.1 rfl (lv_room (Nat.le_of_ble_eq_true rfl)) dX6_remove_2 ⟨Nat.zero_le _, Nat.zero_le _⟩) hP hD hS hA [0] rfl rfl rfl rfl (fun H locs hP hD hS => ?_)
  refine lv_if_ne (tgt := 10) hx hb dX6_remove_5 (by decide) (fun c_3 => ?_) (fun c_3 => ?_)
  · have hf := ite_f hf c_3
    refine lv_aload_n hx hb dX6_remove_10 rfl (lv_at hl 0 rfl) ?_
    obtain ⟨sv_4, q_5, hf⟩ := bnd hf
    refine mGovS (segs := [(W_M cI cC cT h0 h1 h2 h3 h4 h5 h6 h7 h8 h9 h10 hlg tk fx xl xp rmn hdn few mst fal al sv hi sn ch my kp tx rd wy)]) (wcs := [(W_M cI cC cT h0 h1 h2 h3 h4 h5 h6 h7 h8 h9 h10 hlg tk fx xl xp rmn hdn few mst fal al sv hi sn ch my kp tx rd wy)]) (w1s := [(W_M cI cC cT h0 h1 h2 h3 h4 h5 h6 h7 h8 h9 h10 hlg tk fx xl xp rmn hdn few mst fal al sv_4 hi sn ch my kp tx rd wy)]) (w2s := [(W_M cI cC cT h0 h1 h2 h3 h4 h5 h6 h7 h8 h9 h10 hlg tk fx xl xp rmn hdn few mst fal al sv_4 hi sn ch my kp tx rd wy)]) rfl rfl (va_runV (As := []) (rest := []) ⟨hx, hb, hml, hown, hts⟩ (c_X6_remember l D cI cC cT h0 h1 h2 h3 h4 h5 h6 h7 h8 h9 h10 hlg tk fx xl xp rmn hdn few mst fal al sv hi sn ch my kp tx rd wy H.size sv_4 q_5) (cwV 0 hts gX6_remove_X6_remember rfl rfl rfl (by decide +kernel) ⟨Nat.le_of_ble_eq_true rfl, Nat.le_of_ble_eq_true rfl⟩) (mPreVS [(W_M cI cC cT h0 h1 h2 h3 h4 h5 h6 h7 h8 h9 h10 hlg tk fx xl xp rmn hdn few mst fal al sv hi sn ch my kp tx rd wy)] rfl hP hD hK hN [0] rfl (by decide) (va_recv hK (sP hP 0 rfl) (ci := 6) (q0 := 0) rfl rfl)) rfl rfl hl.1 rfl (lv_room (Nat.le_of_ble_eq_true rfl)) dX6_remove_11 ⟨Nat.zero_le _, Nat.zero_le _⟩) hP hD hS hA [0] rfl rfl rfl rfl (fun H locs hP hD hS => ?_)
    refine lv_aload_n hx hb dX6_remove_14 rfl (lv_at hl 0 rfl) ?_
    refine lv_iload_n hx hb dX6_remove_15 rfl (lv_at hl 1 rfl) ?_
    obtain ⟨al_6, q_7, hf⟩ := bnd hf
    refine mGovS (segs := [(W_M cI cC cT h0 h1 h2 h3 h4 h5 h6 h7 h8 h9 h10 hlg tk fx xl xp rmn hdn few mst fal al sv_4 hi sn ch my kp tx rd wy)]) (wcs := [(W_M cI cC cT h0 h1 h2 h3 h4 h5 h6 h7 h8 h9 h10 hlg tk fx xl xp rmn hdn few mst fal al sv_4 hi sn ch my kp tx rd wy)]) (w1s := [(W_M cI cC cT h0 h1 h2 h3 h4 h5 h6 h7 h8 h9 h10 hlg tk fx xl xp rmn hdn few mst fal al_6 sv_4 hi sn ch my kp tx rd wy)]) (w2s := [(W_M cI cC cT h0 h1 h2 h3 h4 h5 h6 h7 h8 h9 h10 hlg tk fx xl xp rmn hdn few mst fal al_6 sv_4 hi sn ch my kp tx rd wy)]) rfl rfl (va_runV (As := [.int p0]) (rest := []) ⟨hx, hb, hml, hown, hts⟩ (c_X6_takesOut l D cI cC cT h0 h1 h2 h3 h4 h5 h6 h7 h8 h9 h10 hlg tk fx xl xp rmn hdn few mst fal al sv_4 hi sn ch my kp tx rd wy H.size p0 al_6 q_7) (cwV 1 hts gX6_remove_X6_takesOut rfl rfl rfl (by decide +kernel) ⟨Nat.le_of_ble_eq_true rfl, Nat.le_of_ble_eq_true rfl⟩) (mPreVS [(W_M cI cC cT h0 h1 h2 h3 h4 h5 h6 h7 h8 h9 h10 hlg tk fx xl xp rmn hdn few mst fal al sv_4 hi sn ch my kp tx rd wy)] rfl hP hD hK hN [0] rfl (by decide) (va_recv hK (sP hP 0 rfl) (ci := 6) (q0 := 0) rfl rfl)) rfl rfl hl.1 rfl (lv_room (Nat.le_of_ble_eq_true rfl)) dX6_remove_16 ⟨Nat.zero_le _, Nat.zero_le _⟩) hP hD hS hA [0] rfl rfl rfl rfl (fun H locs hP hD hS => ?_)
    refine lv_aload_n hx hb dX6_remove_19 rfl (lv_at hl 0 rfl) ?_
    refine lv_aload_n hx hb dX6_remove_20 rfl (lv_at hl 0 rfl) ?_
    refine va_get (D := D) (ci := 6) (v := .ref h1) (C := RX6) (T := TX6) (N := 20) hx hb hts hin_X6 hown hK hP 0 rfl rfl 0 (by decide) fl_7 (fun _ h9 => h9) rfl dX6_remove_21 ?_
    refine lv_iconst (v := 0) hx hb dX6_remove_24 (by decide) ?_
    refine va_iald hx hb hK hP 1 0 rfl rfl (i := 0) (by unfold vp_in; decide) dX6_remove_25 ?_
    refine lv_tope (y := al_6 0) rfl ?_
    obtain ⟨⟨r_8, hlg_9, hi_10⟩, q_11, hf⟩ := bnd hf
    refine mGoiS (segs := [(W_M cI cC cT h0 h1 h2 h3 h4 h5 h6 h7 h8 h9 h10 hlg tk fx xl xp rmn hdn few mst fal al_6 sv_4 hi sn ch my kp tx rd wy)]) (wcs := [(W_M cI cC cT h0 h1 h2 h3 h4 h5 h6 h7 h8 h9 h10 hlg tk fx xl xp rmn hdn few mst fal al_6 sv_4 hi sn ch my kp tx rd wy)]) (w1s := [(W_M cI cC cT h0 h1 h2 h3 h4 h5 h6 h7 h8 h9 h10 hlg_9 tk fx xl xp rmn hdn few mst fal al_6 sv_4 hi_10 sn ch my kp tx rd wy)]) (w2s := [(W_M cI cC cT h0 h1 h2 h3 h4 h5 h6 h7 h8 h9 h10 hlg_9 tk fx xl xp rmn hdn few mst fal al_6 sv_4 hi_10 sn ch my kp tx rd wy)]) rfl rfl (va_runV (As := [.int (al_6 0)]) (rest := []) ⟨hx, hb, hml, hown, hts⟩ (c_X6_acted l D cI cC cT h0 h1 h2 h3 h4 h5 h6 h7 h8 h9 h10 hlg tk fx xl xp rmn hdn few mst fal al_6 sv_4 hi sn ch my kp tx rd wy H.size (al_6 0) r_8 hlg_9 hi_10 q_11) (cwV 1 hts gX6_remove_X6_acted rfl rfl rfl (by decide +kernel) ⟨Nat.le_of_ble_eq_true rfl, Nat.le_of_ble_eq_true rfl⟩) (mPreVS [(W_M cI cC cT h0 h1 h2 h3 h4 h5 h6 h7 h8 h9 h10 hlg tk fx xl xp rmn hdn few mst fal al_6 sv_4 hi sn ch my kp tx rd wy)] rfl hP hD hK hN [0] rfl (by decide) (va_recv hK (sP hP 0 rfl) (ci := 6) (q0 := 0) rfl rfl)) rfl rfl hl.1 rfl (lv_room (Nat.le_of_ble_eq_true rfl)) dX6_remove_26 ⟨Nat.zero_le _, Nat.zero_le _⟩) hP hD hS hA [0] rfl rfl rfl rfl (fun H locs hP hD hS => ?_)
    cases hf
    exact mIret hx hb hr hlocks hP hD hK hS dX6_remove_29
  · have hf := ite_t hf c_3
    refine lv_iconst (v := -1) hx hb dX6_remove_8 (by decide) ?_
    cases hf
    exact mIret hx hb hr hlocks hP hD hK hS dX6_remove_9
abbrev rm_X6_restore : Room := { frames := 1, cells := 0, slots := 0, locals := 22 }
set_option maxHeartbeats 4000000 in
set_option maxRecDepth 100000 in
theorem c_X6_restore (l : Launch) (D : va_G) (cI cC cT : ClassId) (h0 h1 h2 h3 h4 h5 h6 h7 h8 h9 h10 : Nat) (hlg : Int32) (tk : Int32) (fx : Int32) (xl : Int32) (xp : Int32) (rmn : Int32) (hdn : Int32) (few : Int32) (mst : Int32) (fal : Int32) (al : Nat → Int32) (sv : Nat → Int32) (hi : Nat → Int32) (sn : Nat → Int32) (ch : Nat → Int32) (my : Nat → Int32) (kp : Nat → Int32) (tx : Nat → Int32) (rd : Nat → Int32) (wy : Nat → Int32) (sz : Nat) (out : Int32) (o_hlg : Int32) (o_al : Nat → Int32) (o_sv : Nat → Int32) (o_hi : Nat → Int32) (hf : f_X6_restore hlg tk al sv hi sn = some ((out, o_hlg, o_al, o_sv, o_hi))) : Met l yX6_restore wsX6_restore rm_X6_restore (mP D (mTY cI cC cT) [.ref h0] (List.flatten [(W_M cI cC cT h0 h1 h2 h3 h4 h5 h6 h7 h8 h9 h10 hlg tk fx xl xp rmn hdn few mst fal al sv hi sn ch my kp tx rd wy)]) sz) (mQi D (mTY cI cC cT) out (va_A (List.flatten [(W_M cI cC cT h0 h1 h2 h3 h4 h5 h6 h7 h8 h9 h10 hlg tk fx xl xp rmn hdn few mst fal al sv hi sn ch my kp tx rd wy)]) sz) (List.flatten [(W_M cI cC cT h0 h1 h2 h3 h4 h5 h6 h7 h8 h9 h10 o_hlg tk fx xl xp rmn hdn few mst fal o_al o_sv o_hi sn ch my kp tx rd wy)])) 0 0 (va_A (List.flatten [(W_M cI cC cT h0 h1 h2 h3 h4 h5 h6 h7 h8 h9 h10 hlg tk fx xl xp rmn hdn few mst fal al sv hi sn ch my kp tx rd wy)]) sz) := by
  refine mEnt (cc := cX6_restore) (maxL := 2) (ret := (some .int)) (own := RX6) (Qq := fun A => mQi D (mTY cI cC cT) out A (List.flatten [(W_M cI cC cT h0 h1 h2 h3 h4 h5 h6 h7 h8 h9 h10 o_hlg tk fx xl xp rmn hdn few mst fal o_al o_sv o_hi sn ch my kp tx rd wy)])) (by decide) rfl rfl (Nat.le_of_ble_eq_true rfl) ?_
  intro p e s m below meth c A ls H locs hx hb hr hml hlocks hown hts hN hA hP hK hD hS hl
  have hin_X6 : ∀ w ∈ u_ws RX6 TX6 20, w ∈ wsX6_restore := by decide +kernel
  have fl_7 := hts (.fieldLink RX6 7 "SureMendingsModel" "all" "[I") (by decide +kernel)
  have fl_19 := hts (.fieldLink RX6 19 "SureMendingsModel" "snapshot" "[I") (by decide +kernel)
  have fl_143 := hts (.fieldLink RX6 143 "SureMendingsModel" "isTaken" "I") (by decide +kernel)
  have hl : lv_has ls 2 [(0, .ref h0)] := hl
  unfold f_X6_restore at hf
  refine lv_aload_n hx hb dX6_restore_0 rfl (lv_at hl 0 rfl) ?_
  refine va_get (D := D) (ci := 6) (v := .int tk) (C := RX6) (T := TX6) (N := 20) hx hb hts hin_X6 hown hK hP 0 rfl rfl 5 (by decide) fl_143 (fun _ h9 => h9) rfl dX6_restore_1 ?_
  refine lv_if_ne (tgt := 10) hx hb dX6_restore_4 (by decide) (fun c_1 => ?_) (fun c_1 => ?_)
  · have hf := ite_f hf c_1
    refine lv_aload_n hx hb dX6_restore_10 rfl (lv_at hl 0 rfl) ?_
    obtain ⟨sv_2, q_3, hf⟩ := bnd hf
    refine mGovS (segs := [(W_M cI cC cT h0 h1 h2 h3 h4 h5 h6 h7 h8 h9 h10 hlg tk fx xl xp rmn hdn few mst fal al sv hi sn ch my kp tx rd wy)]) (wcs := [(W_M cI cC cT h0 h1 h2 h3 h4 h5 h6 h7 h8 h9 h10 hlg tk fx xl xp rmn hdn few mst fal al sv hi sn ch my kp tx rd wy)]) (w1s := [(W_M cI cC cT h0 h1 h2 h3 h4 h5 h6 h7 h8 h9 h10 hlg tk fx xl xp rmn hdn few mst fal al sv_2 hi sn ch my kp tx rd wy)]) (w2s := [(W_M cI cC cT h0 h1 h2 h3 h4 h5 h6 h7 h8 h9 h10 hlg tk fx xl xp rmn hdn few mst fal al sv_2 hi sn ch my kp tx rd wy)]) rfl rfl (va_runV (As := []) (rest := []) ⟨hx, hb, hml, hown, hts⟩ (c_X6_remember l D cI cC cT h0 h1 h2 h3 h4 h5 h6 h7 h8 h9 h10 hlg tk fx xl xp rmn hdn few mst fal al sv hi sn ch my kp tx rd wy H.size sv_2 q_3) (cwV 0 hts gX6_restore_X6_remember rfl rfl rfl (by decide +kernel) ⟨Nat.le_of_ble_eq_true rfl, Nat.le_of_ble_eq_true rfl⟩) (mPreVS [(W_M cI cC cT h0 h1 h2 h3 h4 h5 h6 h7 h8 h9 h10 hlg tk fx xl xp rmn hdn few mst fal al sv hi sn ch my kp tx rd wy)] rfl hP hD hK hN [0] rfl (by decide) (va_recv hK (sP hP 0 rfl) (ci := 6) (q0 := 0) rfl rfl)) rfl rfl hl.1 rfl (lv_room (Nat.le_of_ble_eq_true rfl)) dX6_restore_11 ⟨Nat.zero_le _, Nat.zero_le _⟩) hP hD hS hA [0] rfl rfl rfl rfl (fun H locs hP hD hS => ?_)
    refine lv_iconst (v := 0) hx hb dX6_restore_14 (by decide) ?_
    refine lv_istore_n (lv' := [(1, .int 0), (0, .ref h0)]) hx hb dX6_restore_15 rfl hl (by decide) rfl (fun ls hl => ?_)
    have LP_6 : ∀ (n_6 : Nat) (v1_4 : Int32) (al_5 : Nat → Int32), iter n_6 (b_X6_restore_1 hlg hi sn sv_2) ((v1_4, al_5)) = some ((out, o_hlg, o_al, o_sv, o_hi)) → ∀ (H : Heap) (locs : List Loc), va_P D vwCl (List.flatten [(W_M cI cC cT h0 h1 h2 h3 h4 h5 h6 h7 h8 h9 h10 hlg tk fx xl xp rmn hdn few mst fal al_5 sv_2 hi sn ch my kp tx rd wy)]) H → va_D A (List.flatten [(W_M cI cC cT h0 h1 h2 h3 h4 h5 h6 h7 h8 h9 h10 hlg tk fx xl xp rmn hdn few mst fal al_5 sv_2 hi sn ch my kp tx rd wy)]) → va_S A s.heap H locs → ∀ (ls : Array Slot), lv_has ls 2 [(0, .ref h0), (1, .int v1_4)] → W p l e rm_X6_restore s m ([.ref h0] : List Value).toArray below meth c H locs 0 0 (MQ below (mQi D (mTY cI cC cT) out A (List.flatten [(W_M cI cC cT h0 h1 h2 h3 h4 h5 h6 h7 h8 h9 h10 o_hlg tk fx xl xp rmn hdn few mst fal o_al o_sv o_hi sn ch my kp tx rd wy)])) ([.ref h0] : List Value).toArray s 0 0 A) (F0 m 16 ls []) := by
      intro n_6
      induction n_6 with
      | zero => intro v1_4 al_5 hf; exact (iter_zero hf).elim
      | succ n_6 ih_6 =>
        intro v1_4 al_5 hf H locs hP hD hS ls hl
        obtain ⟨o_6, hf, ho_6⟩ := iter_succ hf
        dsimp only [b_X6_restore_1] at hf
        refine lv_iload_n hx hb dX6_restore_16 rfl (lv_at hl 1 rfl) ?_
        refine lv_bipush (v := 82) hx hb dX6_restore_17 (by decide) ?_
        refine lv_icmp_ge (tgt := 40) hx hb dX6_restore_19 (by decide) (fun c_7 => ?_) (fun c_7 => ?_)
        · have hf := ite_t hf c_7
          refine lv_aload_n hx hb dX6_restore_40 rfl (lv_at hl 0 rfl) ?_
          refine lv_aload_n hx hb dX6_restore_41 rfl (lv_at hl 0 rfl) ?_
          refine va_get (D := D) (ci := 6) (v := .ref h1) (C := RX6) (T := TX6) (N := 20) hx hb hts hin_X6 hown hK hP 0 rfl rfl 0 (by decide) fl_7 (fun _ h9 => h9) rfl dX6_restore_42 ?_
          refine lv_iconst (v := 0) hx hb dX6_restore_45 (by decide) ?_
          refine va_iald hx hb hK hP 1 0 rfl rfl (i := 0) (by unfold vp_in; decide) dX6_restore_46 ?_
          refine lv_tope (y := al_5 0) rfl ?_
          obtain ⟨⟨r_8, hlg_9, hi_10⟩, q_11, hf⟩ := bnd hf
          refine mGoiS (segs := [(W_M cI cC cT h0 h1 h2 h3 h4 h5 h6 h7 h8 h9 h10 hlg tk fx xl xp rmn hdn few mst fal al_5 sv_2 hi sn ch my kp tx rd wy)]) (wcs := [(W_M cI cC cT h0 h1 h2 h3 h4 h5 h6 h7 h8 h9 h10 hlg tk fx xl xp rmn hdn few mst fal al_5 sv_2 hi sn ch my kp tx rd wy)]) (w1s := [(W_M cI cC cT h0 h1 h2 h3 h4 h5 h6 h7 h8 h9 h10 hlg_9 tk fx xl xp rmn hdn few mst fal al_5 sv_2 hi_10 sn ch my kp tx rd wy)]) (w2s := [(W_M cI cC cT h0 h1 h2 h3 h4 h5 h6 h7 h8 h9 h10 hlg_9 tk fx xl xp rmn hdn few mst fal al_5 sv_2 hi_10 sn ch my kp tx rd wy)]) rfl rfl (va_runV (As := [.int (al_5 0)]) (rest := []) ⟨hx, hb, hml, hown, hts⟩ (c_X6_acted l D cI cC cT h0 h1 h2 h3 h4 h5 h6 h7 h8 h9 h10 hlg tk fx xl xp rmn hdn few mst fal al_5 sv_2 hi sn ch my kp tx rd wy H.size (al_5 0) r_8 hlg_9 hi_10 q_11) (cwV 1 hts gX6_restore_X6_acted rfl rfl rfl (by decide +kernel) ⟨Nat.le_of_ble_eq_true rfl, Nat.le_of_ble_eq_true rfl⟩) (mPreVS [(W_M cI cC cT h0 h1 h2 h3 h4 h5 h6 h7 h8 h9 h10 hlg tk fx xl xp rmn hdn few mst fal al_5 sv_2 hi sn ch my kp tx rd wy)] rfl hP hD hK hN [0] rfl (by decide) (va_recv hK (sP hP 0 rfl) (ci := 6) (q0 := 0) rfl rfl)) rfl rfl hl.1 rfl (lv_room (Nat.le_of_ble_eq_true rfl)) dX6_restore_47 ⟨Nat.zero_le _, Nat.zero_le _⟩) hP hD hS hA [0] rfl rfl rfl rfl (fun H locs hP hD hS => ?_)
          cases hf
          have hf := ho_6.2 _ rfl
          cases hf
          exact mIret hx hb hr hlocks hP hD hK hS dX6_restore_50
        · have hf := ite_f hf c_7
          refine lv_aload_n hx hb dX6_restore_22 rfl (lv_at hl 0 rfl) ?_
          refine va_get (D := D) (ci := 6) (v := .ref h1) (C := RX6) (T := TX6) (N := 20) hx hb hts hin_X6 hown hK hP 0 rfl rfl 0 (by decide) fl_7 (fun _ h9 => h9) rfl dX6_restore_23 ?_
          refine lv_iload_n hx hb dX6_restore_26 rfl (lv_at hl 1 rfl) ?_
          refine lv_aload_n hx hb dX6_restore_27 rfl (lv_at hl 0 rfl) ?_
          refine va_get (D := D) (ci := 6) (v := .ref h4) (C := RX6) (T := TX6) (N := 20) hx hb hts hin_X6 hown hK hP 0 rfl rfl 4 (by decide) fl_19 (fun _ h9 => h9) rfl dX6_restore_28 ?_
          refine lv_iload_n hx hb dX6_restore_31 rfl (lv_at hl 1 rfl) ?_
          obtain ⟨h_12, hf⟩ := grd hf
          refine va_iald hx hb hK hP 4 0 rfl rfl h_12 dX6_restore_32 ?_
          obtain ⟨h_13, hf⟩ := grd hf
          refine va_iast hx hb hK hP hD hS 1 0 rfl rfl h_13 dX6_restore_33 (fun H locs hP hD hS => ?_)
          have hP : va_P D vwCl (List.flatten [(W_M cI cC cT h0 h1 h2 h3 h4 h5 h6 h7 h8 h9 h10 hlg tk fx xl xp rmn hdn few mst fal (upd al_5 v1_4.toNatClampNeg (sn v1_4.toNatClampNeg)) sv_2 hi sn ch my kp tx rd wy)]) H := hP
          have hD : va_D A (List.flatten [(W_M cI cC cT h0 h1 h2 h3 h4 h5 h6 h7 h8 h9 h10 hlg tk fx xl xp rmn hdn few mst fal (upd al_5 v1_4.toNatClampNeg (sn v1_4.toNatClampNeg)) sv_2 hi sn ch my kp tx rd wy)]) := hD
          refine lv_iinc (v := v1_4 + 1) (lv' := [(1, .int (v1_4 + 1)), (0, .ref h0)]) hx hb dX6_restore_34 hl (k := 1) rfl rfl (by decide) rfl (fun ls hl => ?_)
          refine lv_goto (tgt := 16) hx hb dX6_restore_37 (by decide) ?_
          cases hf
          have hf := ho_6.1 _ rfl
          exact ih_6 _ _ hf _ _ hP hD hS _ (lv_sub hl [1, 0] rfl)
    exact LP_6 _ _ _ hf _ _ hP hD hS _ (lv_sub hl [1, 0] rfl)
  · have hf := ite_t hf c_1
    refine lv_bipush (v := -5) hx hb dX6_restore_7 (by decide) ?_
    cases hf
    exact mIret hx hb hr hlocks hP hD hK hS dX6_restore_9
abbrev rm_X6_row : Room := { frames := 5, cells := 0, slots := 0, locals := 112 }
set_option maxHeartbeats 4000000 in
set_option maxRecDepth 100000 in
theorem c_X6_row (l : Launch) (D : va_G) (cI cC cT : ClassId) (h0 h1 h2 h3 h4 h5 h6 h7 h8 h9 h10 : Nat) (hlg : Int32) (tk : Int32) (fx : Int32) (xl : Int32) (xp : Int32) (rmn : Int32) (hdn : Int32) (few : Int32) (mst : Int32) (fal : Int32) (al : Nat → Int32) (sv : Nat → Int32) (hi : Nat → Int32) (sn : Nat → Int32) (ch : Nat → Int32) (my : Nat → Int32) (kp : Nat → Int32) (tx : Nat → Int32) (rd : Nat → Int32) (wy : Nat → Int32) (sz : Nat) (p0 : Int32) (p1 : Int32) (out : Int32) (o_ch : Nat → Int32) (o_my : Nat → Int32) (hf : f_X6_row fx al ch my p0 p1 = some ((out, o_ch, o_my))) : Met l yX6_row wsX6_row rm_X6_row (mP D (mTY cI cC cT) [.ref h0, .int p0, .int p1] (List.flatten [(W_M cI cC cT h0 h1 h2 h3 h4 h5 h6 h7 h8 h9 h10 hlg tk fx xl xp rmn hdn few mst fal al sv hi sn ch my kp tx rd wy)]) sz) (mQi D (mTY cI cC cT) out (va_A (List.flatten [(W_M cI cC cT h0 h1 h2 h3 h4 h5 h6 h7 h8 h9 h10 hlg tk fx xl xp rmn hdn few mst fal al sv hi sn ch my kp tx rd wy)]) sz) (List.flatten [(W_M cI cC cT h0 h1 h2 h3 h4 h5 h6 h7 h8 h9 h10 hlg tk fx xl xp rmn hdn few mst fal al sv hi sn o_ch o_my kp tx rd wy)])) 0 0 (va_A (List.flatten [(W_M cI cC cT h0 h1 h2 h3 h4 h5 h6 h7 h8 h9 h10 hlg tk fx xl xp rmn hdn few mst fal al sv hi sn ch my kp tx rd wy)]) sz) := by
  refine mEnt (cc := cX6_row) (maxL := 3) (ret := (some .int)) (own := RX6) (Qq := fun A => mQi D (mTY cI cC cT) out A (List.flatten [(W_M cI cC cT h0 h1 h2 h3 h4 h5 h6 h7 h8 h9 h10 hlg tk fx xl xp rmn hdn few mst fal al sv hi sn o_ch o_my kp tx rd wy)])) (by decide) rfl rfl (Nat.le_of_ble_eq_true rfl) ?_
  intro p e s m below meth c A ls H locs hx hb hr hml hlocks hown hts hN hA hP hK hD hS hl
  have hl : lv_has ls 3 [(0, .ref h0), (1, .int p0), (2, .int p1)] := hl
  unfold f_X6_row at hf
  refine lv_aload_n hx hb dX6_row_0 rfl (lv_at hl 0 rfl) ?_
  refine lv_iload_n hx hb dX6_row_1 rfl (lv_at hl 1 rfl) ?_
  obtain ⟨r_1, q_2, hf⟩ := bnd hf
  refine mGoiS (segs := [(W_M cI cC cT h0 h1 h2 h3 h4 h5 h6 h7 h8 h9 h10 hlg tk fx xl xp rmn hdn few mst fal al sv hi sn ch my kp tx rd wy)]) (wcs := [(W_M cI cC cT h0 h1 h2 h3 h4 h5 h6 h7 h8 h9 h10 hlg tk fx xl xp rmn hdn few mst fal al sv hi sn ch my kp tx rd wy)]) (w1s := [(W_M cI cC cT h0 h1 h2 h3 h4 h5 h6 h7 h8 h9 h10 hlg tk fx xl xp rmn hdn few mst fal al sv hi sn ch my kp tx rd wy)]) (w2s := [(W_M cI cC cT h0 h1 h2 h3 h4 h5 h6 h7 h8 h9 h10 hlg tk fx xl xp rmn hdn few mst fal al sv hi sn ch my kp tx rd wy)]) rfl rfl (va_runV (As := [.int p0]) (rest := []) ⟨hx, hb, hml, hown, hts⟩ (c_X6_isRow l D cI cC cT h0 h1 h2 h3 h4 h5 h6 h7 h8 h9 h10 hlg tk fx xl xp rmn hdn few mst fal al sv hi sn ch my kp tx rd wy H.size p0 r_1 q_2) (cwV 1 hts gX6_row_X6_isRow rfl rfl rfl (by decide +kernel) ⟨Nat.le_of_ble_eq_true rfl, Nat.le_of_ble_eq_true rfl⟩) (mPreVS [(W_M cI cC cT h0 h1 h2 h3 h4 h5 h6 h7 h8 h9 h10 hlg tk fx xl xp rmn hdn few mst fal al sv hi sn ch my kp tx rd wy)] rfl hP hD hK hN [0] rfl (by decide) (va_recv hK (sP hP 0 rfl) (ci := 6) (q0 := 0) rfl rfl)) rfl rfl hl.1 rfl (lv_room (Nat.le_of_ble_eq_true rfl)) dX6_row_2 ⟨Nat.zero_le _, Nat.zero_le _⟩) hP hD hS hA [0] rfl rfl rfl rfl (fun H locs hP hD hS => ?_)
  refine lv_if_ne (tgt := 10) hx hb dX6_row_5 (by decide) (fun c_3 => ?_) (fun c_3 => ?_)
  · have hf := ite_f hf c_3
    refine lv_iload_n hx hb dX6_row_10 rfl (lv_at hl 2 rfl) ?_
    by_cases c_4 : p1 = 0
    · have hf := ite_t hf c_4
      refine lv_tableIn (tgt := 48) hx hb dX6_row_11 (by rw [c_4]; decide) (by rw [c_4]; decide) (by rw [c_4]; rfl) (by decide) ?_
      refine lv_aload_n hx hb dX6_row_48 rfl (lv_at hl 0 rfl) ?_
      refine lv_iload_n hx hb dX6_row_49 rfl (lv_at hl 1 rfl) ?_
      refine lv_iload_n hx hb dX6_row_50 rfl (lv_at hl 2 rfl) ?_
      obtain ⟨r_5, q_6, hf⟩ := bnd hf
      refine mGoiS (segs := [(W_M cI cC cT h0 h1 h2 h3 h4 h5 h6 h7 h8 h9 h10 hlg tk fx xl xp rmn hdn few mst fal al sv hi sn ch my kp tx rd wy)]) (wcs := [(W_M cI cC cT h0 h1 h2 h3 h4 h5 h6 h7 h8 h9 h10 hlg tk fx xl xp rmn hdn few mst fal al sv hi sn ch my kp tx rd wy)]) (w1s := [(W_M cI cC cT h0 h1 h2 h3 h4 h5 h6 h7 h8 h9 h10 hlg tk fx xl xp rmn hdn few mst fal al sv hi sn ch my kp tx rd wy)]) (w2s := [(W_M cI cC cT h0 h1 h2 h3 h4 h5 h6 h7 h8 h9 h10 hlg tk fx xl xp rmn hdn few mst fal al sv hi sn ch my kp tx rd wy)]) rfl rfl (va_runV (As := [.int p0, .int p1]) (rest := []) ⟨hx, hb, hml, hown, hts⟩ (c_X6_of l D cI cC cT h0 h1 h2 h3 h4 h5 h6 h7 h8 h9 h10 hlg tk fx xl xp rmn hdn few mst fal al sv hi sn ch my kp tx rd wy H.size p0 p1 r_5 q_6) (cwV 2 hts gX6_row_X6_of rfl rfl rfl (by decide +kernel) ⟨Nat.le_of_ble_eq_true rfl, Nat.le_of_ble_eq_true rfl⟩) (mPreVS [(W_M cI cC cT h0 h1 h2 h3 h4 h5 h6 h7 h8 h9 h10 hlg tk fx xl xp rmn hdn few mst fal al sv hi sn ch my kp tx rd wy)] rfl hP hD hK hN [0] rfl (by decide) (va_recv hK (sP hP 0 rfl) (ci := 6) (q0 := 0) rfl rfl)) rfl rfl hl.1 rfl (lv_room (Nat.le_of_ble_eq_true rfl)) dX6_row_51 ⟨Nat.zero_le _, Nat.zero_le _⟩) hP hD hS hA [0] rfl rfl rfl rfl (fun H locs hP hD hS => ?_)
      cases hf
      exact mIret hx hb hr hlocks hP hD hK hS dX6_row_54
    have hf := ite_f hf c_4
    by_cases c_7 : p1 = 1
    · have hf := ite_t hf c_7
      refine lv_tableIn (tgt := 55) hx hb dX6_row_11 (by rw [c_7]; decide) (by rw [c_7]; decide) (by rw [c_7]; rfl) (by decide) ?_
      refine lv_bipush (v := 97) hx hb dX6_row_55 (by decide) ?_
      refine lv_aload_n hx hb dX6_row_57 rfl (lv_at hl 0 rfl) ?_
      refine lv_iload_n hx hb dX6_row_58 rfl (lv_at hl 1 rfl) ?_
      refine lv_iconst (v := 1) hx hb dX6_row_59 (by decide) ?_
      obtain ⟨r_8, q_9, hf⟩ := bnd hf
      refine mGoiS (segs := [(W_M cI cC cT h0 h1 h2 h3 h4 h5 h6 h7 h8 h9 h10 hlg tk fx xl xp rmn hdn few mst fal al sv hi sn ch my kp tx rd wy)]) (wcs := [(W_M cI cC cT h0 h1 h2 h3 h4 h5 h6 h7 h8 h9 h10 hlg tk fx xl xp rmn hdn few mst fal al sv hi sn ch my kp tx rd wy)]) (w1s := [(W_M cI cC cT h0 h1 h2 h3 h4 h5 h6 h7 h8 h9 h10 hlg tk fx xl xp rmn hdn few mst fal al sv hi sn ch my kp tx rd wy)]) (w2s := [(W_M cI cC cT h0 h1 h2 h3 h4 h5 h6 h7 h8 h9 h10 hlg tk fx xl xp rmn hdn few mst fal al sv hi sn ch my kp tx rd wy)]) rfl rfl (va_runV (As := [.int p0, .int 1]) (rest := [.int 97]) ⟨hx, hb, hml, hown, hts⟩ (c_X6_of l D cI cC cT h0 h1 h2 h3 h4 h5 h6 h7 h8 h9 h10 hlg tk fx xl xp rmn hdn few mst fal al sv hi sn ch my kp tx rd wy H.size p0 1 r_8 q_9) (cwV 2 hts gX6_row_X6_of rfl rfl rfl (by decide +kernel) ⟨Nat.le_of_ble_eq_true rfl, Nat.le_of_ble_eq_true rfl⟩) (mPreVS [(W_M cI cC cT h0 h1 h2 h3 h4 h5 h6 h7 h8 h9 h10 hlg tk fx xl xp rmn hdn few mst fal al sv hi sn ch my kp tx rd wy)] rfl hP hD hK hN [0] rfl (by decide) (va_recv hK (sP hP 0 rfl) (ci := 6) (q0 := 0) rfl rfl)) rfl rfl hl.1 rfl (lv_room (Nat.le_of_ble_eq_true rfl)) dX6_row_60 ⟨Nat.zero_le _, Nat.zero_le _⟩) hP hD hS hA [0] rfl rfl rfl rfl (fun H locs hP hD hS => ?_)
      refine lv_iadd hx hb dX6_row_63 ?_
      cases hf
      exact mIret hx hb hr hlocks hP hD hK hS dX6_row_64
    have hf := ite_f hf c_7
    by_cases c_10 : p1 = 2
    · have hf := ite_t hf c_10
      refine lv_tableIn (tgt := 48) hx hb dX6_row_11 (by rw [c_10]; decide) (by rw [c_10]; decide) (by rw [c_10]; rfl) (by decide) ?_
      refine lv_aload_n hx hb dX6_row_48 rfl (lv_at hl 0 rfl) ?_
      refine lv_iload_n hx hb dX6_row_49 rfl (lv_at hl 1 rfl) ?_
      refine lv_iload_n hx hb dX6_row_50 rfl (lv_at hl 2 rfl) ?_
      obtain ⟨r_11, q_12, hf⟩ := bnd hf
      refine mGoiS (segs := [(W_M cI cC cT h0 h1 h2 h3 h4 h5 h6 h7 h8 h9 h10 hlg tk fx xl xp rmn hdn few mst fal al sv hi sn ch my kp tx rd wy)]) (wcs := [(W_M cI cC cT h0 h1 h2 h3 h4 h5 h6 h7 h8 h9 h10 hlg tk fx xl xp rmn hdn few mst fal al sv hi sn ch my kp tx rd wy)]) (w1s := [(W_M cI cC cT h0 h1 h2 h3 h4 h5 h6 h7 h8 h9 h10 hlg tk fx xl xp rmn hdn few mst fal al sv hi sn ch my kp tx rd wy)]) (w2s := [(W_M cI cC cT h0 h1 h2 h3 h4 h5 h6 h7 h8 h9 h10 hlg tk fx xl xp rmn hdn few mst fal al sv hi sn ch my kp tx rd wy)]) rfl rfl (va_runV (As := [.int p0, .int p1]) (rest := []) ⟨hx, hb, hml, hown, hts⟩ (c_X6_of l D cI cC cT h0 h1 h2 h3 h4 h5 h6 h7 h8 h9 h10 hlg tk fx xl xp rmn hdn few mst fal al sv hi sn ch my kp tx rd wy H.size p0 p1 r_11 q_12) (cwV 2 hts gX6_row_X6_of rfl rfl rfl (by decide +kernel) ⟨Nat.le_of_ble_eq_true rfl, Nat.le_of_ble_eq_true rfl⟩) (mPreVS [(W_M cI cC cT h0 h1 h2 h3 h4 h5 h6 h7 h8 h9 h10 hlg tk fx xl xp rmn hdn few mst fal al sv hi sn ch my kp tx rd wy)] rfl hP hD hK hN [0] rfl (by decide) (va_recv hK (sP hP 0 rfl) (ci := 6) (q0 := 0) rfl rfl)) rfl rfl hl.1 rfl (lv_room (Nat.le_of_ble_eq_true rfl)) dX6_row_51 ⟨Nat.zero_le _, Nat.zero_le _⟩) hP hD hS hA [0] rfl rfl rfl rfl (fun H locs hP hD hS => ?_)
      cases hf
      exact mIret hx hb hr hlocks hP hD hK hS dX6_row_54
    have hf := ite_f hf c_10
    by_cases c_13 : p1 = 3
    · have hf := ite_t hf c_13
      refine lv_tableIn (tgt := 48) hx hb dX6_row_11 (by rw [c_13]; decide) (by rw [c_13]; decide) (by rw [c_13]; rfl) (by decide) ?_
      refine lv_aload_n hx hb dX6_row_48 rfl (lv_at hl 0 rfl) ?_
      refine lv_iload_n hx hb dX6_row_49 rfl (lv_at hl 1 rfl) ?_
      refine lv_iload_n hx hb dX6_row_50 rfl (lv_at hl 2 rfl) ?_
      obtain ⟨r_14, q_15, hf⟩ := bnd hf
      refine mGoiS (segs := [(W_M cI cC cT h0 h1 h2 h3 h4 h5 h6 h7 h8 h9 h10 hlg tk fx xl xp rmn hdn few mst fal al sv hi sn ch my kp tx rd wy)]) (wcs := [(W_M cI cC cT h0 h1 h2 h3 h4 h5 h6 h7 h8 h9 h10 hlg tk fx xl xp rmn hdn few mst fal al sv hi sn ch my kp tx rd wy)]) (w1s := [(W_M cI cC cT h0 h1 h2 h3 h4 h5 h6 h7 h8 h9 h10 hlg tk fx xl xp rmn hdn few mst fal al sv hi sn ch my kp tx rd wy)]) (w2s := [(W_M cI cC cT h0 h1 h2 h3 h4 h5 h6 h7 h8 h9 h10 hlg tk fx xl xp rmn hdn few mst fal al sv hi sn ch my kp tx rd wy)]) rfl rfl (va_runV (As := [.int p0, .int p1]) (rest := []) ⟨hx, hb, hml, hown, hts⟩ (c_X6_of l D cI cC cT h0 h1 h2 h3 h4 h5 h6 h7 h8 h9 h10 hlg tk fx xl xp rmn hdn few mst fal al sv hi sn ch my kp tx rd wy H.size p0 p1 r_14 q_15) (cwV 2 hts gX6_row_X6_of rfl rfl rfl (by decide +kernel) ⟨Nat.le_of_ble_eq_true rfl, Nat.le_of_ble_eq_true rfl⟩) (mPreVS [(W_M cI cC cT h0 h1 h2 h3 h4 h5 h6 h7 h8 h9 h10 hlg tk fx xl xp rmn hdn few mst fal al sv hi sn ch my kp tx rd wy)] rfl hP hD hK hN [0] rfl (by decide) (va_recv hK (sP hP 0 rfl) (ci := 6) (q0 := 0) rfl rfl)) rfl rfl hl.1 rfl (lv_room (Nat.le_of_ble_eq_true rfl)) dX6_row_51 ⟨Nat.zero_le _, Nat.zero_le _⟩) hP hD hS hA [0] rfl rfl rfl rfl (fun H locs hP hD hS => ?_)
      cases hf
      exact mIret hx hb hr hlocks hP hD hK hS dX6_row_54
    have hf := ite_f hf c_13
    by_cases c_16 : p1 = 4
    · have hf := ite_t hf c_16
      refine lv_tableIn (tgt := 65) hx hb dX6_row_11 (by rw [c_16]; decide) (by rw [c_16]; decide) (by rw [c_16]; rfl) (by decide) ?_
      refine lv_aload_n hx hb dX6_row_65 rfl (lv_at hl 0 rfl) ?_
      refine lv_iload_n hx hb dX6_row_66 rfl (lv_at hl 1 rfl) ?_
      obtain ⟨r_17, q_18, hf⟩ := bnd hf
      refine mGoiS (segs := [(W_M cI cC cT h0 h1 h2 h3 h4 h5 h6 h7 h8 h9 h10 hlg tk fx xl xp rmn hdn few mst fal al sv hi sn ch my kp tx rd wy)]) (wcs := [(W_M cI cC cT h0 h1 h2 h3 h4 h5 h6 h7 h8 h9 h10 hlg tk fx xl xp rmn hdn few mst fal al sv hi sn ch my kp tx rd wy)]) (w1s := [(W_M cI cC cT h0 h1 h2 h3 h4 h5 h6 h7 h8 h9 h10 hlg tk fx xl xp rmn hdn few mst fal al sv hi sn ch my kp tx rd wy)]) (w2s := [(W_M cI cC cT h0 h1 h2 h3 h4 h5 h6 h7 h8 h9 h10 hlg tk fx xl xp rmn hdn few mst fal al sv hi sn ch my kp tx rd wy)]) rfl rfl (va_runV (As := [.int p0]) (rest := []) ⟨hx, hb, hml, hown, hts⟩ (c_X6_canBeKept l D cI cC cT h0 h1 h2 h3 h4 h5 h6 h7 h8 h9 h10 hlg tk fx xl xp rmn hdn few mst fal al sv hi sn ch my kp tx rd wy H.size p0 r_17 q_18) (cwV 1 hts gX6_row_X6_canBeKept rfl rfl rfl (by decide +kernel) ⟨Nat.le_of_ble_eq_true rfl, Nat.le_of_ble_eq_true rfl⟩) (mPreVS [(W_M cI cC cT h0 h1 h2 h3 h4 h5 h6 h7 h8 h9 h10 hlg tk fx xl xp rmn hdn few mst fal al sv hi sn ch my kp tx rd wy)] rfl hP hD hK hN [0] rfl (by decide) (va_recv hK (sP hP 0 rfl) (ci := 6) (q0 := 0) rfl rfl)) rfl rfl hl.1 rfl (lv_room (Nat.le_of_ble_eq_true rfl)) dX6_row_67 ⟨Nat.zero_le _, Nat.zero_le _⟩) hP hD hS hA [0] rfl rfl rfl rfl (fun H locs hP hD hS => ?_)
      refine lv_if_eq (tgt := 77) hx hb dX6_row_70 (by decide) (fun c_19 => ?_) (fun c_19 => ?_)
      · have hf := ite_t hf c_19
        refine lv_iconst (v := 0) hx hb dX6_row_77 (by decide) ?_
        cases hf
        exact mIret hx hb hr hlocks hP hD hK hS dX6_row_78
      · have hf := ite_f hf c_19
        refine lv_iconst (v := 1) hx hb dX6_row_73 (by decide) ?_
        refine lv_goto (tgt := 78) hx hb dX6_row_74 (by decide) ?_
        cases hf
        exact mIret hx hb hr hlocks hP hD hK hS dX6_row_78
    have hf := ite_f hf c_16
    by_cases c_20 : p1 = 5
    · have hf := ite_t hf c_20
      refine lv_tableIn (tgt := 79) hx hb dX6_row_11 (by rw [c_20]; decide) (by rw [c_20]; decide) (by rw [c_20]; rfl) (by decide) ?_
      refine lv_aload_n hx hb dX6_row_79 rfl (lv_at hl 0 rfl) ?_
      refine lv_iload_n hx hb dX6_row_80 rfl (lv_at hl 1 rfl) ?_
      obtain ⟨⟨r_21, ch_22, my_23⟩, q_24, hf⟩ := bnd hf
      refine mGoiS (segs := [(W_M cI cC cT h0 h1 h2 h3 h4 h5 h6 h7 h8 h9 h10 hlg tk fx xl xp rmn hdn few mst fal al sv hi sn ch my kp tx rd wy)]) (wcs := [(W_M cI cC cT h0 h1 h2 h3 h4 h5 h6 h7 h8 h9 h10 hlg tk fx xl xp rmn hdn few mst fal al sv hi sn ch my kp tx rd wy)]) (w1s := [(W_M cI cC cT h0 h1 h2 h3 h4 h5 h6 h7 h8 h9 h10 hlg tk fx xl xp rmn hdn few mst fal al sv hi sn ch_22 my_23 kp tx rd wy)]) (w2s := [(W_M cI cC cT h0 h1 h2 h3 h4 h5 h6 h7 h8 h9 h10 hlg tk fx xl xp rmn hdn few mst fal al sv hi sn ch_22 my_23 kp tx rd wy)]) rfl rfl (va_runV (As := [.int p0]) (rest := []) ⟨hx, hb, hml, hown, hts⟩ (c_X6_isSure l D cI cC cT h0 h1 h2 h3 h4 h5 h6 h7 h8 h9 h10 hlg tk fx xl xp rmn hdn few mst fal al sv hi sn ch my kp tx rd wy H.size p0 r_21 ch_22 my_23 q_24) (cwV 1 hts gX6_row_X6_isSure rfl rfl rfl (by decide +kernel) ⟨Nat.le_of_ble_eq_true rfl, Nat.le_of_ble_eq_true rfl⟩) (mPreVS [(W_M cI cC cT h0 h1 h2 h3 h4 h5 h6 h7 h8 h9 h10 hlg tk fx xl xp rmn hdn few mst fal al sv hi sn ch my kp tx rd wy)] rfl hP hD hK hN [0] rfl (by decide) (va_recv hK (sP hP 0 rfl) (ci := 6) (q0 := 0) rfl rfl)) rfl rfl hl.1 rfl (lv_room (Nat.le_of_ble_eq_true rfl)) dX6_row_81 ⟨Nat.zero_le _, Nat.zero_le _⟩) hP hD hS hA [0] rfl rfl rfl rfl (fun H locs hP hD hS => ?_)
      refine lv_if_eq (tgt := 91) hx hb dX6_row_84 (by decide) (fun c_25 => ?_) (fun c_25 => ?_)
      · have hf := ite_t hf c_25
        refine lv_iconst (v := 0) hx hb dX6_row_91 (by decide) ?_
        cases hf
        exact mIret hx hb hr hlocks hP hD hK hS dX6_row_92
      · have hf := ite_f hf c_25
        refine lv_iconst (v := 1) hx hb dX6_row_87 (by decide) ?_
        refine lv_goto (tgt := 92) hx hb dX6_row_88 (by decide) ?_
        cases hf
        exact mIret hx hb hr hlocks hP hD hK hS dX6_row_92
    have hf := ite_f hf c_20
    refine lv_tableOut (tgt := 93) hx hb dX6_row_11 (tsw_out 5 (by decide) (fun j hj => by rcases (show j = 0 ∨ j = 1 ∨ j = 2 ∨ j = 3 ∨ j = 4 ∨ j = 5 by omega) with rfl | rfl | rfl | rfl | rfl | rfl <;> assumption)) (by decide) ?_
    refine lv_bipush (v := -2) hx hb dX6_row_93 (by decide) ?_
    cases hf
    exact mIret hx hb hr hlocks hP hD hK hS dX6_row_95
  · have hf := ite_t hf c_3
    refine lv_iconst (v := -1) hx hb dX6_row_8 (by decide) ?_
    cases hf
    exact mIret hx hb hr hlocks hP hD hK hS dX6_row_9
abbrev rm_X6_weightOf : Room := { frames := 1, cells := 0, slots := 0, locals := 22 }
set_option maxHeartbeats 4000000 in
set_option maxRecDepth 100000 in
theorem c_X6_weightOf (l : Launch) (D : va_G) (cI cC cT : ClassId) (h0 h1 h2 h3 h4 h5 h6 h7 h8 h9 h10 : Nat) (hlg : Int32) (tk : Int32) (fx : Int32) (xl : Int32) (xp : Int32) (rmn : Int32) (hdn : Int32) (few : Int32) (mst : Int32) (fal : Int32) (al : Nat → Int32) (sv : Nat → Int32) (hi : Nat → Int32) (sn : Nat → Int32) (ch : Nat → Int32) (my : Nat → Int32) (kp : Nat → Int32) (tx : Nat → Int32) (rd : Nat → Int32) (wy : Nat → Int32) (sz : Nat) (out : Int32) (hf : f_X6_weightOf al kp = some out) : Met l yX6_weightOf wsX6_weightOf rm_X6_weightOf (mP D (mTY cI cC cT) [.ref h0] (List.flatten [(W_M cI cC cT h0 h1 h2 h3 h4 h5 h6 h7 h8 h9 h10 hlg tk fx xl xp rmn hdn few mst fal al sv hi sn ch my kp tx rd wy)]) sz) (mQi D (mTY cI cC cT) out (va_A (List.flatten [(W_M cI cC cT h0 h1 h2 h3 h4 h5 h6 h7 h8 h9 h10 hlg tk fx xl xp rmn hdn few mst fal al sv hi sn ch my kp tx rd wy)]) sz) (List.flatten [(W_M cI cC cT h0 h1 h2 h3 h4 h5 h6 h7 h8 h9 h10 hlg tk fx xl xp rmn hdn few mst fal al sv hi sn ch my kp tx rd wy)])) 0 0 (va_A (List.flatten [(W_M cI cC cT h0 h1 h2 h3 h4 h5 h6 h7 h8 h9 h10 hlg tk fx xl xp rmn hdn few mst fal al sv hi sn ch my kp tx rd wy)]) sz) := by
  refine mEnt (cc := cX6_weightOf) (maxL := 3) (ret := (some .int)) (own := RX6) (Qq := fun A => mQi D (mTY cI cC cT) out A (List.flatten [(W_M cI cC cT h0 h1 h2 h3 h4 h5 h6 h7 h8 h9 h10 hlg tk fx xl xp rmn hdn few mst fal al sv hi sn ch my kp tx rd wy)])) (by decide) rfl rfl (Nat.le_of_ble_eq_true rfl) ?_
  intro p e s m below meth c A ls H locs hx hb hr hml hlocks hown hts hN hA hP hK hD hS hl
  have hin_X6 : ∀ w ∈ u_ws RX6 TX6 20, w ∈ wsX6_weightOf := by decide +kernel
  have fl_28 := hts (.fieldLink RX6 28 "SureMendingsModel" "kept" "[I") (by decide +kernel)
  have hl : lv_has ls 3 [(0, .ref h0)] := hl
  unfold f_X6_weightOf at hf
  refine lv_iconst (v := 0) hx hb dX6_weightOf_0 (by decide) ?_
  refine lv_istore_n (lv' := [(1, .int 0), (0, .ref h0)]) hx hb dX6_weightOf_1 rfl hl (by decide) rfl (fun ls hl => ?_)
  refine lv_iconst (v := 0) hx hb dX6_weightOf_2 (by decide) ?_
  refine lv_istore_n (lv' := [(2, .int 0), (1, .int 0), (0, .ref h0)]) hx hb dX6_weightOf_3 rfl hl (by decide) rfl (fun ls hl => ?_)
  have LP_3 : ∀ (n_3 : Nat) (v1_1 : Int32) (v2_2 : Int32), iter n_3 (b_X6_weightOf_1 al kp) ((v1_1, v2_2)) = some out → ∀ (H : Heap) (locs : List Loc), va_P D vwCl (List.flatten [(W_M cI cC cT h0 h1 h2 h3 h4 h5 h6 h7 h8 h9 h10 hlg tk fx xl xp rmn hdn few mst fal al sv hi sn ch my kp tx rd wy)]) H → va_D A (List.flatten [(W_M cI cC cT h0 h1 h2 h3 h4 h5 h6 h7 h8 h9 h10 hlg tk fx xl xp rmn hdn few mst fal al sv hi sn ch my kp tx rd wy)]) → va_S A s.heap H locs → ∀ (ls : Array Slot), lv_has ls 3 [(0, .ref h0), (1, .int v1_1), (2, .int v2_2)] → W p l e rm_X6_weightOf s m ([.ref h0] : List Value).toArray below meth c H locs 0 0 (MQ below (mQi D (mTY cI cC cT) out A (List.flatten [(W_M cI cC cT h0 h1 h2 h3 h4 h5 h6 h7 h8 h9 h10 hlg tk fx xl xp rmn hdn few mst fal al sv hi sn ch my kp tx rd wy)])) ([.ref h0] : List Value).toArray s 0 0 A) (F0 m 4 ls []) := by
    intro n_3
    induction n_3 with
    | zero => intro v1_1 v2_2 hf; exact (iter_zero hf).elim
    | succ n_3 ih_3 =>
      intro v1_1 v2_2 hf H locs hP hD hS ls hl
      obtain ⟨o_3, hf, ho_3⟩ := iter_succ hf
      dsimp only [b_X6_weightOf_1] at hf
      refine lv_iload_n hx hb dX6_weightOf_4 rfl (lv_at hl 2 rfl) ?_
      refine lv_bipush (v := 10) hx hb dX6_weightOf_5 (by decide) ?_
      refine lv_icmp_ge (tgt := 45) hx hb dX6_weightOf_7 (by decide) (fun c_4 => ?_) (fun c_4 => ?_)
      · have hf := ite_t hf c_4
        refine lv_iload_n hx hb dX6_weightOf_45 rfl (lv_at hl 1 rfl) ?_
        cases hf
        have hf := ho_3.2 _ rfl
        cases hf
        exact mIret hx hb hr hlocks hP hD hK hS dX6_weightOf_46
      · have hf := ite_f hf c_4
        refine lv_iload_n hx hb dX6_weightOf_10 rfl (lv_at hl 1 rfl) ?_
        refine lv_aload_n hx hb dX6_weightOf_11 rfl (lv_at hl 0 rfl) ?_
        refine va_get (D := D) (ci := 6) (v := .ref h7) (C := RX6) (T := TX6) (N := 20) hx hb hts hin_X6 hown hK hP 0 rfl rfl 8 (by decide) fl_28 (fun _ h9 => h9) rfl dX6_weightOf_12 ?_
        refine lv_iload_n hx hb dX6_weightOf_15 rfl (lv_at hl 2 rfl) ?_
        obtain ⟨h_5, hf⟩ := grd hf
        refine va_iald hx hb hK hP 7 0 rfl rfl h_5 dX6_weightOf_16 ?_
        refine lv_bipush (v := -5) hx hb dX6_weightOf_17 (by decide) ?_
        obtain ⟨x_6, q_8, hf⟩ := bnd hf
        have K_7 : ∀ (H : Heap) (locs : List Loc), va_P D vwCl (List.flatten [(W_M cI cC cT h0 h1 h2 h3 h4 h5 h6 h7 h8 h9 h10 hlg tk fx xl xp rmn hdn few mst fal al sv hi sn ch my kp tx rd wy)]) H → va_D A (List.flatten [(W_M cI cC cT h0 h1 h2 h3 h4 h5 h6 h7 h8 h9 h10 hlg tk fx xl xp rmn hdn few mst fal al sv hi sn ch my kp tx rd wy)]) → va_S A s.heap H locs → ∀ (ls : Array Slot), lv_has ls 3 [(0, .ref h0), (2, .int v2_2)] → W p l e rm_X6_weightOf s m ([.ref h0] : List Value).toArray below meth c H locs 0 0 (MQ below (mQi D (mTY cI cC cT) out A (List.flatten [(W_M cI cC cT h0 h1 h2 h3 h4 h5 h6 h7 h8 h9 h10 hlg tk fx xl xp rmn hdn few mst fal al sv hi sn ch my kp tx rd wy)])) ([.ref h0] : List Value).toArray s 0 0 A) (F0 m 37 ls [.int x_6, .int v1_1]) := by
          intro H locs hP hD hS ls hl
          refine lv_iadd hx hb dX6_weightOf_37 ?_
          refine lv_istore_n (lv' := [(1, .int (v1_1 + x_6)), (0, .ref h0), (2, .int v2_2)]) hx hb dX6_weightOf_38 rfl hl (by decide) rfl (fun ls hl => ?_)
          refine lv_iinc (v := v2_2 + 1) (lv' := [(2, .int (v2_2 + 1)), (1, .int (v1_1 + x_6)), (0, .ref h0)]) hx hb dX6_weightOf_39 hl (k := 2) rfl rfl (by decide) rfl (fun ls hl => ?_)
          refine lv_goto (tgt := 4) hx hb dX6_weightOf_42 (by decide) ?_
          cases hf
          have hf := ho_3.1 _ rfl
          exact ih_3 _ _ hf _ _ hP hD hS _ (lv_sub hl [2, 1, 0] rfl)
        have hf := q_8
        refine lv_icmp_ne (tgt := 26) hx hb dX6_weightOf_19 (by decide) (fun c_9 => ?_) (fun c_9 => ?_)
        · have hf := ite_f hf c_9
          refine lv_aload_n hx hb dX6_weightOf_26 rfl (lv_at hl 0 rfl) ?_
          refine lv_aload_n hx hb dX6_weightOf_27 rfl (lv_at hl 0 rfl) ?_
          refine va_get (D := D) (ci := 6) (v := .ref h7) (C := RX6) (T := TX6) (N := 20) hx hb hts hin_X6 hown hK hP 0 rfl rfl 8 (by decide) fl_28 (fun _ h9 => h9) rfl dX6_weightOf_28 ?_
          refine lv_iload_n hx hb dX6_weightOf_31 rfl (lv_at hl 2 rfl) ?_
          obtain ⟨h_10, hf⟩ := grd hf
          refine va_iald hx hb hK hP 7 0 rfl rfl h_10 dX6_weightOf_32 ?_
          refine lv_iconst (v := 2) hx hb dX6_weightOf_33 (by decide) ?_
          obtain ⟨r_11, q_12, hf⟩ := bnd hf
          refine mGoiS (segs := [(W_M cI cC cT h0 h1 h2 h3 h4 h5 h6 h7 h8 h9 h10 hlg tk fx xl xp rmn hdn few mst fal al sv hi sn ch my kp tx rd wy)]) (wcs := [(W_M cI cC cT h0 h1 h2 h3 h4 h5 h6 h7 h8 h9 h10 hlg tk fx xl xp rmn hdn few mst fal al sv hi sn ch my kp tx rd wy)]) (w1s := [(W_M cI cC cT h0 h1 h2 h3 h4 h5 h6 h7 h8 h9 h10 hlg tk fx xl xp rmn hdn few mst fal al sv hi sn ch my kp tx rd wy)]) (w2s := [(W_M cI cC cT h0 h1 h2 h3 h4 h5 h6 h7 h8 h9 h10 hlg tk fx xl xp rmn hdn few mst fal al sv hi sn ch my kp tx rd wy)]) rfl rfl (va_runV (As := [.int (kp v2_2.toNatClampNeg), .int 2]) (rest := [.int v1_1]) ⟨hx, hb, hml, hown, hts⟩ (c_X6_of l D cI cC cT h0 h1 h2 h3 h4 h5 h6 h7 h8 h9 h10 hlg tk fx xl xp rmn hdn few mst fal al sv hi sn ch my kp tx rd wy H.size (kp v2_2.toNatClampNeg) 2 r_11 q_12) (cwV 2 hts gX6_weightOf_X6_of rfl rfl rfl (by decide +kernel) ⟨Nat.le_of_ble_eq_true rfl, Nat.le_of_ble_eq_true rfl⟩) (mPreVS [(W_M cI cC cT h0 h1 h2 h3 h4 h5 h6 h7 h8 h9 h10 hlg tk fx xl xp rmn hdn few mst fal al sv hi sn ch my kp tx rd wy)] rfl hP hD hK hN [0] rfl (by decide) (va_recv hK (sP hP 0 rfl) (ci := 6) (q0 := 0) rfl rfl)) rfl rfl hl.1 rfl (lv_room (Nat.le_of_ble_eq_true rfl)) dX6_weightOf_34 ⟨Nat.zero_le _, Nat.zero_le _⟩) hP hD hS hA [0] rfl rfl rfl rfl (fun H locs hP hD hS => ?_)
          cases hf
          exact K_7 _ _ hP hD hS _ (lv_sub hl [0, 2] rfl)
        · have hf := ite_t hf c_9
          refine lv_iconst (v := 0) hx hb dX6_weightOf_22 (by decide) ?_
          refine lv_goto (tgt := 37) hx hb dX6_weightOf_23 (by decide) ?_
          cases hf
          exact K_7 _ _ hP hD hS _ (lv_sub hl [0, 2] rfl)
  exact LP_3 _ _ _ hf _ _ hP hD hS _ (lv_sub hl [2, 1, 0] rfl)
abbrev rm_X6_sum : Room := { frames := 4, cells := 0, slots := 0, locals := 91 }
set_option maxHeartbeats 4000000 in
set_option maxRecDepth 100000 in
theorem c_X6_sum (l : Launch) (D : va_G) (cI cC cT : ClassId) (h0 h1 h2 h3 h4 h5 h6 h7 h8 h9 h10 : Nat) (hlg : Int32) (tk : Int32) (fx : Int32) (xl : Int32) (xp : Int32) (rmn : Int32) (hdn : Int32) (few : Int32) (mst : Int32) (fal : Int32) (al : Nat → Int32) (sv : Nat → Int32) (hi : Nat → Int32) (sn : Nat → Int32) (ch : Nat → Int32) (my : Nat → Int32) (kp : Nat → Int32) (tx : Nat → Int32) (rd : Nat → Int32) (wy : Nat → Int32) (sz : Nat) (p0 : Int32) (out : Int32) (o_ch : Nat → Int32) (o_my : Nat → Int32) (o_kp : Nat → Int32) (hf : f_X6_sum fx al ch my kp p0 = some ((out, o_ch, o_my, o_kp))) : Met l yX6_sum wsX6_sum rm_X6_sum (mP D (mTY cI cC cT) [.ref h0, .int p0] (List.flatten [(W_M cI cC cT h0 h1 h2 h3 h4 h5 h6 h7 h8 h9 h10 hlg tk fx xl xp rmn hdn few mst fal al sv hi sn ch my kp tx rd wy)]) sz) (mQi D (mTY cI cC cT) out (va_A (List.flatten [(W_M cI cC cT h0 h1 h2 h3 h4 h5 h6 h7 h8 h9 h10 hlg tk fx xl xp rmn hdn few mst fal al sv hi sn ch my kp tx rd wy)]) sz) (List.flatten [(W_M cI cC cT h0 h1 h2 h3 h4 h5 h6 h7 h8 h9 h10 hlg tk fx xl xp rmn hdn few mst fal al sv hi sn o_ch o_my o_kp tx rd wy)])) 0 0 (va_A (List.flatten [(W_M cI cC cT h0 h1 h2 h3 h4 h5 h6 h7 h8 h9 h10 hlg tk fx xl xp rmn hdn few mst fal al sv hi sn ch my kp tx rd wy)]) sz) := by
  refine mEnt (cc := cX6_sum) (maxL := 8) (ret := (some .int)) (own := RX6) (Qq := fun A => mQi D (mTY cI cC cT) out A (List.flatten [(W_M cI cC cT h0 h1 h2 h3 h4 h5 h6 h7 h8 h9 h10 hlg tk fx xl xp rmn hdn few mst fal al sv hi sn o_ch o_my o_kp tx rd wy)])) (by decide) rfl rfl (Nat.le_of_ble_eq_true rfl) ?_
  intro p e s m below meth c A ls H locs hx hb hr hml hlocks hown hts hN hA hP hK hD hS hl
  have hl : lv_has ls 8 [(0, .ref h0), (1, .int p0)] := hl
  unfold f_X6_sum at hf
  refine lv_iload_n hx hb dX6_sum_0 rfl (lv_at hl 1 rfl) ?_
  refine lv_i2l hx hb dX6_sum_1 rfl ?_
  refine lv_lconst (v := 0) hx hb dX6_sum_2 rfl ?_
  refine lv_ldc2 (v := 3) hx hb hown (hts (.constantLong RX6 188 (3)) (by decide +kernel)) dX6_sum_3 ?_
  obtain ⟨r_1, q_2, hf⟩ := bnd hf
  refine mGoiS (segs := [(W_M cI cC cT h0 h1 h2 h3 h4 h5 h6 h7 h8 h9 h10 hlg tk fx xl xp rmn hdn few mst fal al sv hi sn ch my kp tx rd wy)]) (wcs := []) (w1s := []) (w2s := [(W_M cI cC cT h0 h1 h2 h3 h4 h5 h6 h7 h8 h9 h10 hlg tk fx xl xp rmn hdn few mst fal al sv hi sn ch my kp tx rd wy)]) rfl rfl (va_runS (As := [.long (Int32.toInt64 p0), .long 0, .long 3]) (rest := []) ⟨hx, hb, hml, hown, hts⟩ (c_X6_in l D cI cC cT H.size (Int32.toInt64 p0) 0 3 r_1 q_2) (va_cwS 3 hts gX6_sum_X6_in rfl rfl rfl (by decide +kernel) ⟨Nat.le_of_ble_eq_true rfl, Nat.le_of_ble_eq_true rfl⟩) (mPreSS [] rfl hP hD hK hN [] rfl (by decide)) rfl rfl hl.1 rfl (lv_room (Nat.le_of_ble_eq_true rfl)) dX6_sum_6 ⟨Nat.zero_le _, Nat.zero_le _⟩) hP hD hS hA [] rfl rfl rfl rfl (fun H locs hP hD hS => ?_)
  refine lv_if_ne (tgt := 15) hx hb dX6_sum_9 (by decide) (fun c_3 => ?_) (fun c_3 => ?_)
  · have hf := ite_f hf c_3
    refine lv_aload_n hx hb dX6_sum_15 rfl (lv_at hl 0 rfl) ?_
    obtain ⟨⟨ch_4, my_5⟩, q_6, hf⟩ := bnd hf
    refine mGovS (segs := [(W_M cI cC cT h0 h1 h2 h3 h4 h5 h6 h7 h8 h9 h10 hlg tk fx xl xp rmn hdn few mst fal al sv hi sn ch my kp tx rd wy)]) (wcs := [(W_M cI cC cT h0 h1 h2 h3 h4 h5 h6 h7 h8 h9 h10 hlg tk fx xl xp rmn hdn few mst fal al sv hi sn ch my kp tx rd wy)]) (w1s := [(W_M cI cC cT h0 h1 h2 h3 h4 h5 h6 h7 h8 h9 h10 hlg tk fx xl xp rmn hdn few mst fal al sv hi sn ch_4 my_5 kp tx rd wy)]) (w2s := [(W_M cI cC cT h0 h1 h2 h3 h4 h5 h6 h7 h8 h9 h10 hlg tk fx xl xp rmn hdn few mst fal al sv hi sn ch_4 my_5 kp tx rd wy)]) rfl rfl (va_runV (As := []) (rest := []) ⟨hx, hb, hml, hown, hts⟩ (c_X6_findsChoices l D cI cC cT h0 h1 h2 h3 h4 h5 h6 h7 h8 h9 h10 hlg tk fx xl xp rmn hdn few mst fal al sv hi sn ch my kp tx rd wy H.size ch_4 my_5 q_6) (cwV 0 hts gX6_sum_X6_findsChoices rfl rfl rfl (by decide +kernel) ⟨Nat.le_of_ble_eq_true rfl, Nat.le_of_ble_eq_true rfl⟩) (mPreVS [(W_M cI cC cT h0 h1 h2 h3 h4 h5 h6 h7 h8 h9 h10 hlg tk fx xl xp rmn hdn few mst fal al sv hi sn ch my kp tx rd wy)] rfl hP hD hK hN [0] rfl (by decide) (va_recv hK (sP hP 0 rfl) (ci := 6) (q0 := 0) rfl rfl)) rfl rfl hl.1 rfl (lv_room (Nat.le_of_ble_eq_true rfl)) dX6_sum_16 ⟨Nat.zero_le _, Nat.zero_le _⟩) hP hD hS hA [0] rfl rfl rfl rfl (fun H locs hP hD hS => ?_)
    refine lv_aload_n hx hb dX6_sum_19 rfl (lv_at hl 0 rfl) ?_
    refine lv_iconst (v := 0) hx hb dX6_sum_20 (by decide) ?_
    obtain ⟨kp_7, q_8, hf⟩ := bnd hf
    refine mGovS (segs := [(W_M cI cC cT h0 h1 h2 h3 h4 h5 h6 h7 h8 h9 h10 hlg tk fx xl xp rmn hdn few mst fal al sv hi sn ch_4 my_5 kp tx rd wy)]) (wcs := [(W_M cI cC cT h0 h1 h2 h3 h4 h5 h6 h7 h8 h9 h10 hlg tk fx xl xp rmn hdn few mst fal al sv hi sn ch_4 my_5 kp tx rd wy)]) (w1s := [(W_M cI cC cT h0 h1 h2 h3 h4 h5 h6 h7 h8 h9 h10 hlg tk fx xl xp rmn hdn few mst fal al sv hi sn ch_4 my_5 kp_7 tx rd wy)]) (w2s := [(W_M cI cC cT h0 h1 h2 h3 h4 h5 h6 h7 h8 h9 h10 hlg tk fx xl xp rmn hdn few mst fal al sv hi sn ch_4 my_5 kp_7 tx rd wy)]) rfl rfl (va_runV (As := [.int 0]) (rest := []) ⟨hx, hb, hml, hown, hts⟩ (c_X6_takes l D cI cC cT h0 h1 h2 h3 h4 h5 h6 h7 h8 h9 h10 hlg tk fx xl xp rmn hdn few mst fal al sv hi sn ch_4 my_5 kp tx rd wy H.size 0 kp_7 q_8) (cwV 1 hts gX6_sum_X6_takes rfl rfl rfl (by decide +kernel) ⟨Nat.le_of_ble_eq_true rfl, Nat.le_of_ble_eq_true rfl⟩) (mPreVS [(W_M cI cC cT h0 h1 h2 h3 h4 h5 h6 h7 h8 h9 h10 hlg tk fx xl xp rmn hdn few mst fal al sv hi sn ch_4 my_5 kp tx rd wy)] rfl hP hD hK hN [0] rfl (by decide) (va_recv hK (sP hP 0 rfl) (ci := 6) (q0 := 0) rfl rfl)) rfl rfl hl.1 rfl (lv_room (Nat.le_of_ble_eq_true rfl)) dX6_sum_21 ⟨Nat.zero_le _, Nat.zero_le _⟩) hP hD hS hA [0] rfl rfl rfl rfl (fun H locs hP hD hS => ?_)
    refine lv_aload_n hx hb dX6_sum_24 rfl (lv_at hl 0 rfl) ?_
    obtain ⟨r_9, q_10, hf⟩ := bnd hf
    refine mGoiS (segs := [(W_M cI cC cT h0 h1 h2 h3 h4 h5 h6 h7 h8 h9 h10 hlg tk fx xl xp rmn hdn few mst fal al sv hi sn ch_4 my_5 kp_7 tx rd wy)]) (wcs := [(W_M cI cC cT h0 h1 h2 h3 h4 h5 h6 h7 h8 h9 h10 hlg tk fx xl xp rmn hdn few mst fal al sv hi sn ch_4 my_5 kp_7 tx rd wy)]) (w1s := [(W_M cI cC cT h0 h1 h2 h3 h4 h5 h6 h7 h8 h9 h10 hlg tk fx xl xp rmn hdn few mst fal al sv hi sn ch_4 my_5 kp_7 tx rd wy)]) (w2s := [(W_M cI cC cT h0 h1 h2 h3 h4 h5 h6 h7 h8 h9 h10 hlg tk fx xl xp rmn hdn few mst fal al sv hi sn ch_4 my_5 kp_7 tx rd wy)]) rfl rfl (va_runV (As := []) (rest := []) ⟨hx, hb, hml, hown, hts⟩ (c_X6_weightOf l D cI cC cT h0 h1 h2 h3 h4 h5 h6 h7 h8 h9 h10 hlg tk fx xl xp rmn hdn few mst fal al sv hi sn ch_4 my_5 kp_7 tx rd wy H.size r_9 q_10) (cwV 0 hts gX6_sum_X6_weightOf rfl rfl rfl (by decide +kernel) ⟨Nat.le_of_ble_eq_true rfl, Nat.le_of_ble_eq_true rfl⟩) (mPreVS [(W_M cI cC cT h0 h1 h2 h3 h4 h5 h6 h7 h8 h9 h10 hlg tk fx xl xp rmn hdn few mst fal al sv hi sn ch_4 my_5 kp_7 tx rd wy)] rfl hP hD hK hN [0] rfl (by decide) (va_recv hK (sP hP 0 rfl) (ci := 6) (q0 := 0) rfl rfl)) rfl rfl hl.1 rfl (lv_room (Nat.le_of_ble_eq_true rfl)) dX6_sum_25 ⟨Nat.zero_le _, Nat.zero_le _⟩) hP hD hS hA [0] rfl rfl rfl rfl (fun H locs hP hD hS => ?_)
    refine lv_istore_n (lv' := [(2, .int r_9), (0, .ref h0), (1, .int p0)]) hx hb dX6_sum_28 rfl hl (by decide) rfl (fun ls hl => ?_)
    refine lv_iload_n hx hb dX6_sum_29 rfl (lv_at hl 0 rfl) ?_
    refine lv_istore_n (lv' := [(3, .int r_9), (2, .int r_9), (0, .ref h0), (1, .int p0)]) hx hb dX6_sum_30 rfl hl (by decide) rfl (fun ls hl => ?_)
    refine lv_iconst (v := 0) hx hb dX6_sum_31 (by decide) ?_
    refine lv_istore (lv' := [(4, .int 0), (3, .int r_9), (2, .int r_9), (0, .ref h0), (1, .int p0)]) hx hb dX6_sum_32 hl (by decide) rfl (fun ls hl => ?_)
    refine lv_iconst (v := 0) hx hb dX6_sum_34 (by decide) ?_
    refine lv_istore (lv' := [(5, .int 0), (4, .int 0), (3, .int r_9), (2, .int r_9), (0, .ref h0), (1, .int p0)]) hx hb dX6_sum_35 hl (by decide) rfl (fun ls hl => ?_)
    refine lv_iconst (v := 1) hx hb dX6_sum_37 (by decide) ?_
    refine lv_istore (lv' := [(6, .int 1), (5, .int 0), (4, .int 0), (3, .int r_9), (2, .int r_9), (0, .ref h0), (1, .int p0)]) hx hb dX6_sum_38 hl (by decide) rfl (fun ls hl => ?_)
    have LP_17 : ∀ (n_17 : Nat) (v2_11 : Int32) (v3_12 : Int32) (v4_13 : Int32) (v5_14 : Int32) (v6_15 : Int32) (kp_16 : Nat → Int32), iter n_17 (b_X6_sum_1 al p0 my_5 ch_4) ((v2_11, v3_12, v4_13, v5_14, v6_15, kp_16)) = some ((out, o_ch, o_my, o_kp)) → ∀ (H : Heap) (locs : List Loc), va_P D vwCl (List.flatten [(W_M cI cC cT h0 h1 h2 h3 h4 h5 h6 h7 h8 h9 h10 hlg tk fx xl xp rmn hdn few mst fal al sv hi sn ch_4 my_5 kp_16 tx rd wy)]) H → va_D A (List.flatten [(W_M cI cC cT h0 h1 h2 h3 h4 h5 h6 h7 h8 h9 h10 hlg tk fx xl xp rmn hdn few mst fal al sv hi sn ch_4 my_5 kp_16 tx rd wy)]) → va_S A s.heap H locs → ∀ (ls : Array Slot), lv_has ls 8 [(0, .ref h0), (1, .int p0), (2, .int v2_11), (3, .int v3_12), (4, .int v4_13), (5, .int v5_14), (6, .int v6_15)] → W p l e rm_X6_sum s m ([.ref h0, .int p0] : List Value).toArray below meth c H locs 0 0 (MQ below (mQi D (mTY cI cC cT) out A (List.flatten [(W_M cI cC cT h0 h1 h2 h3 h4 h5 h6 h7 h8 h9 h10 hlg tk fx xl xp rmn hdn few mst fal al sv hi sn o_ch o_my o_kp tx rd wy)])) ([.ref h0, .int p0] : List Value).toArray s 0 0 A) (F0 m 40 ls []) := by
      intro n_17
      induction n_17 with
      | zero => intro v2_11 v3_12 v4_13 v5_14 v6_15 kp_16 hf; exact (iter_zero hf).elim
      | succ n_17 ih_17 =>
        intro v2_11 v3_12 v4_13 v5_14 v6_15 kp_16 hf H locs hP hD hS ls hl
        obtain ⟨o_17, hf, ho_17⟩ := iter_succ hf
        dsimp only [b_X6_sum_1] at hf
        refine lv_iload hx hb dX6_sum_40 (lv_at hl 6 rfl) ?_
        refine lv_aload_n hx hb dX6_sum_42 rfl (lv_at hl 0 rfl) ?_
        obtain ⟨r_18, q_19, hf⟩ := bnd hf
        refine mGoiS (segs := [(W_M cI cC cT h0 h1 h2 h3 h4 h5 h6 h7 h8 h9 h10 hlg tk fx xl xp rmn hdn few mst fal al sv hi sn ch_4 my_5 kp_16 tx rd wy)]) (wcs := [(W_M cI cC cT h0 h1 h2 h3 h4 h5 h6 h7 h8 h9 h10 hlg tk fx xl xp rmn hdn few mst fal al sv hi sn ch_4 my_5 kp_16 tx rd wy)]) (w1s := [(W_M cI cC cT h0 h1 h2 h3 h4 h5 h6 h7 h8 h9 h10 hlg tk fx xl xp rmn hdn few mst fal al sv hi sn ch_4 my_5 kp_16 tx rd wy)]) (w2s := [(W_M cI cC cT h0 h1 h2 h3 h4 h5 h6 h7 h8 h9 h10 hlg tk fx xl xp rmn hdn few mst fal al sv hi sn ch_4 my_5 kp_16 tx rd wy)]) rfl rfl (va_runV (As := []) (rest := [.int v6_15]) ⟨hx, hb, hml, hown, hts⟩ (c_X6_mendings l D cI cC cT h0 h1 h2 h3 h4 h5 h6 h7 h8 h9 h10 hlg tk fx xl xp rmn hdn few mst fal al sv hi sn ch_4 my_5 kp_16 tx rd wy H.size r_18 q_19) (cwV 0 hts gX6_sum_X6_mendings rfl rfl rfl (by decide +kernel) ⟨Nat.le_of_ble_eq_true rfl, Nat.le_of_ble_eq_true rfl⟩) (mPreVS [(W_M cI cC cT h0 h1 h2 h3 h4 h5 h6 h7 h8 h9 h10 hlg tk fx xl xp rmn hdn few mst fal al sv hi sn ch_4 my_5 kp_16 tx rd wy)] rfl hP hD hK hN [0] rfl (by decide) (va_recv hK (sP hP 0 rfl) (ci := 6) (q0 := 0) rfl rfl)) rfl rfl hl.1 rfl (lv_room (Nat.le_of_ble_eq_true rfl)) dX6_sum_43 ⟨Nat.zero_le _, Nat.zero_le _⟩) hP hD hS hA [0] rfl rfl rfl rfl (fun H locs hP hD hS => ?_)
        refine lv_icmp_ge (tgt := 123) hx hb dX6_sum_46 (by decide) (fun c_20 => ?_) (fun c_20 => ?_)
        · have hf := ite_t hf c_20
          refine lv_iload_n hx hb dX6_sum_123 rfl (lv_at hl 1 rfl) ?_
          refine lv_if_ne (tgt := 131) hx hb dX6_sum_124 (by decide) (fun c_21 => ?_) (fun c_21 => ?_)
          · have hf := ite_f hf c_21
            refine lv_iload_n hx hb dX6_sum_131 rfl (lv_at hl 1 rfl) ?_
            refine lv_iconst (v := 1) hx hb dX6_sum_132 (by decide) ?_
            refine lv_icmp_ne (tgt := 140) hx hb dX6_sum_133 (by decide) (fun c_22 => ?_) (fun c_22 => ?_)
            · have hf := ite_f hf c_22
              refine lv_iload_n hx hb dX6_sum_140 rfl (lv_at hl 1 rfl) ?_
              refine lv_iconst (v := 2) hx hb dX6_sum_141 (by decide) ?_
              refine lv_icmp_ne (tgt := 150) hx hb dX6_sum_142 (by decide) (fun c_23 => ?_) (fun c_23 => ?_)
              · have hf := ite_f hf c_23
                refine lv_iload hx hb dX6_sum_150 (lv_at hl 5 rfl) ?_
                cases hf
                have hf := ho_17.2 _ rfl
                cases hf
                exact mIret hx hb hr hlocks hP hD hK hS dX6_sum_152
              · have hf := ite_t hf c_23
                refine lv_iload hx hb dX6_sum_145 (lv_at hl 4 rfl) ?_
                refine lv_goto (tgt := 152) hx hb dX6_sum_147 (by decide) ?_
                cases hf
                have hf := ho_17.2 _ rfl
                cases hf
                exact mIret hx hb hr hlocks hP hD hK hS dX6_sum_152
            · have hf := ite_t hf c_22
              refine lv_iload_n hx hb dX6_sum_136 rfl (lv_at hl 3 rfl) ?_
              refine lv_goto (tgt := 152) hx hb dX6_sum_137 (by decide) ?_
              cases hf
              have hf := ho_17.2 _ rfl
              cases hf
              exact mIret hx hb hr hlocks hP hD hK hS dX6_sum_152
          · have hf := ite_t hf c_21
            refine lv_iload_n hx hb dX6_sum_127 rfl (lv_at hl 2 rfl) ?_
            refine lv_goto (tgt := 152) hx hb dX6_sum_128 (by decide) ?_
            cases hf
            have hf := ho_17.2 _ rfl
            cases hf
            exact mIret hx hb hr hlocks hP hD hK hS dX6_sum_152
        · have hf := ite_f hf c_20
          refine lv_aload_n hx hb dX6_sum_49 rfl (lv_at hl 0 rfl) ?_
          refine lv_iload hx hb dX6_sum_50 (lv_at hl 6 rfl) ?_
          obtain ⟨kp_24, q_25, hf⟩ := bnd hf
          refine mGovS (segs := [(W_M cI cC cT h0 h1 h2 h3 h4 h5 h6 h7 h8 h9 h10 hlg tk fx xl xp rmn hdn few mst fal al sv hi sn ch_4 my_5 kp_16 tx rd wy)]) (wcs := [(W_M cI cC cT h0 h1 h2 h3 h4 h5 h6 h7 h8 h9 h10 hlg tk fx xl xp rmn hdn few mst fal al sv hi sn ch_4 my_5 kp_16 tx rd wy)]) (w1s := [(W_M cI cC cT h0 h1 h2 h3 h4 h5 h6 h7 h8 h9 h10 hlg tk fx xl xp rmn hdn few mst fal al sv hi sn ch_4 my_5 kp_24 tx rd wy)]) (w2s := [(W_M cI cC cT h0 h1 h2 h3 h4 h5 h6 h7 h8 h9 h10 hlg tk fx xl xp rmn hdn few mst fal al sv hi sn ch_4 my_5 kp_24 tx rd wy)]) rfl rfl (va_runV (As := [.int v6_15]) (rest := []) ⟨hx, hb, hml, hown, hts⟩ (c_X6_takes l D cI cC cT h0 h1 h2 h3 h4 h5 h6 h7 h8 h9 h10 hlg tk fx xl xp rmn hdn few mst fal al sv hi sn ch_4 my_5 kp_16 tx rd wy H.size v6_15 kp_24 q_25) (cwV 1 hts gX6_sum_X6_takes rfl rfl rfl (by decide +kernel) ⟨Nat.le_of_ble_eq_true rfl, Nat.le_of_ble_eq_true rfl⟩) (mPreVS [(W_M cI cC cT h0 h1 h2 h3 h4 h5 h6 h7 h8 h9 h10 hlg tk fx xl xp rmn hdn few mst fal al sv hi sn ch_4 my_5 kp_16 tx rd wy)] rfl hP hD hK hN [0] rfl (by decide) (va_recv hK (sP hP 0 rfl) (ci := 6) (q0 := 0) rfl rfl)) rfl rfl hl.1 rfl (lv_room (Nat.le_of_ble_eq_true rfl)) dX6_sum_52 ⟨Nat.zero_le _, Nat.zero_le _⟩) hP hD hS hA [0] rfl rfl rfl rfl (fun H locs hP hD hS => ?_)
          refine lv_aload_n hx hb dX6_sum_55 rfl (lv_at hl 0 rfl) ?_
          obtain ⟨r_26, q_27, hf⟩ := bnd hf
          refine mGoiS (segs := [(W_M cI cC cT h0 h1 h2 h3 h4 h5 h6 h7 h8 h9 h10 hlg tk fx xl xp rmn hdn few mst fal al sv hi sn ch_4 my_5 kp_24 tx rd wy)]) (wcs := [(W_M cI cC cT h0 h1 h2 h3 h4 h5 h6 h7 h8 h9 h10 hlg tk fx xl xp rmn hdn few mst fal al sv hi sn ch_4 my_5 kp_24 tx rd wy)]) (w1s := [(W_M cI cC cT h0 h1 h2 h3 h4 h5 h6 h7 h8 h9 h10 hlg tk fx xl xp rmn hdn few mst fal al sv hi sn ch_4 my_5 kp_24 tx rd wy)]) (w2s := [(W_M cI cC cT h0 h1 h2 h3 h4 h5 h6 h7 h8 h9 h10 hlg tk fx xl xp rmn hdn few mst fal al sv hi sn ch_4 my_5 kp_24 tx rd wy)]) rfl rfl (va_runV (As := []) (rest := []) ⟨hx, hb, hml, hown, hts⟩ (c_X6_weightOf l D cI cC cT h0 h1 h2 h3 h4 h5 h6 h7 h8 h9 h10 hlg tk fx xl xp rmn hdn few mst fal al sv hi sn ch_4 my_5 kp_24 tx rd wy H.size r_26 q_27) (cwV 0 hts gX6_sum_X6_weightOf rfl rfl rfl (by decide +kernel) ⟨Nat.le_of_ble_eq_true rfl, Nat.le_of_ble_eq_true rfl⟩) (mPreVS [(W_M cI cC cT h0 h1 h2 h3 h4 h5 h6 h7 h8 h9 h10 hlg tk fx xl xp rmn hdn few mst fal al sv hi sn ch_4 my_5 kp_24 tx rd wy)] rfl hP hD hK hN [0] rfl (by decide) (va_recv hK (sP hP 0 rfl) (ci := 6) (q0 := 0) rfl rfl)) rfl rfl hl.1 rfl (lv_room (Nat.le_of_ble_eq_true rfl)) dX6_sum_56 ⟨Nat.zero_le _, Nat.zero_le _⟩) hP hD hS hA [0] rfl rfl rfl rfl (fun H locs hP hD hS => ?_)
          refine lv_istore (lv' := [(7, .int r_26), (0, .ref h0), (1, .int p0), (2, .int v2_11), (3, .int v3_12), (4, .int v4_13), (5, .int v5_14), (6, .int v6_15)]) hx hb dX6_sum_59 hl (by decide) rfl (fun ls hl => ?_)
          refine lv_iload hx hb dX6_sum_61 (lv_at hl 0 rfl) ?_
          refine lv_iload_n hx hb dX6_sum_63 rfl (lv_at hl 3 rfl) ?_
          obtain ⟨x_28, q_30, hf⟩ := bnd hf
          have K_29 : ∀ (H : Heap) (locs : List Loc), va_P D vwCl (List.flatten [(W_M cI cC cT h0 h1 h2 h3 h4 h5 h6 h7 h8 h9 h10 hlg tk fx xl xp rmn hdn few mst fal al sv hi sn ch_4 my_5 kp_24 tx rd wy)]) H → va_D A (List.flatten [(W_M cI cC cT h0 h1 h2 h3 h4 h5 h6 h7 h8 h9 h10 hlg tk fx xl xp rmn hdn few mst fal al sv hi sn ch_4 my_5 kp_24 tx rd wy)]) → va_S A s.heap H locs → ∀ (ls : Array Slot), lv_has ls 8 [(0, .ref h0), (1, .int p0), (2, .int v2_11), (3, .int v3_12), (5, .int v5_14), (6, .int v6_15), (7, .int r_26)] → W p l e rm_X6_sum s m ([.ref h0, .int p0] : List Value).toArray below meth c H locs 0 0 (MQ below (mQi D (mTY cI cC cT) out A (List.flatten [(W_M cI cC cT h0 h1 h2 h3 h4 h5 h6 h7 h8 h9 h10 hlg tk fx xl xp rmn hdn few mst fal al sv hi sn o_ch o_my o_kp tx rd wy)])) ([.ref h0, .int p0] : List Value).toArray s 0 0 A) (F0 m 74 ls [.int x_28]) := by
            intro H locs hP hD hS ls hl
            refine lv_istore (lv' := [(4, .int x_28), (0, .ref h0), (1, .int p0), (2, .int v2_11), (3, .int v3_12), (5, .int v5_14), (6, .int v6_15), (7, .int r_26)]) hx hb dX6_sum_74 hl (by decide) rfl (fun ls hl => ?_)
            refine lv_iload hx hb dX6_sum_76 (lv_at hl 7 rfl) ?_
            refine lv_iload_n hx hb dX6_sum_78 rfl (lv_at hl 3 rfl) ?_
            obtain ⟨x_32, q_34, hf⟩ := bnd hf
            have K_33 : ∀ (H : Heap) (locs : List Loc), va_P D vwCl (List.flatten [(W_M cI cC cT h0 h1 h2 h3 h4 h5 h6 h7 h8 h9 h10 hlg tk fx xl xp rmn hdn few mst fal al sv hi sn ch_4 my_5 kp_24 tx rd wy)]) H → va_D A (List.flatten [(W_M cI cC cT h0 h1 h2 h3 h4 h5 h6 h7 h8 h9 h10 hlg tk fx xl xp rmn hdn few mst fal al sv hi sn ch_4 my_5 kp_24 tx rd wy)]) → va_S A s.heap H locs → ∀ (ls : Array Slot), lv_has ls 8 [(0, .ref h0), (1, .int p0), (3, .int v3_12), (4, .int x_28), (5, .int v5_14), (6, .int v6_15), (7, .int r_26)] → W p l e rm_X6_sum s m ([.ref h0, .int p0] : List Value).toArray below meth c H locs 0 0 (MQ below (mQi D (mTY cI cC cT) out A (List.flatten [(W_M cI cC cT h0 h1 h2 h3 h4 h5 h6 h7 h8 h9 h10 hlg tk fx xl xp rmn hdn few mst fal al sv hi sn o_ch o_my o_kp tx rd wy)])) ([.ref h0, .int p0] : List Value).toArray s 0 0 A) (F0 m 88 ls [.int x_32]) := by
              intro H locs hP hD hS ls hl
              refine lv_istore_n (lv' := [(2, .int x_32), (0, .ref h0), (1, .int p0), (3, .int v3_12), (4, .int x_28), (5, .int v5_14), (6, .int v6_15), (7, .int r_26)]) hx hb dX6_sum_88 rfl hl (by decide) rfl (fun ls hl => ?_)
              refine lv_iload hx hb dX6_sum_89 (lv_at hl 7 rfl) ?_
              refine lv_iload_n hx hb dX6_sum_91 rfl (lv_at hl 3 rfl) ?_
              obtain ⟨x_36, q_38, hf⟩ := bnd hf
              have K_37 : ∀ (H : Heap) (locs : List Loc), va_P D vwCl (List.flatten [(W_M cI cC cT h0 h1 h2 h3 h4 h5 h6 h7 h8 h9 h10 hlg tk fx xl xp rmn hdn few mst fal al sv hi sn ch_4 my_5 kp_24 tx rd wy)]) H → va_D A (List.flatten [(W_M cI cC cT h0 h1 h2 h3 h4 h5 h6 h7 h8 h9 h10 hlg tk fx xl xp rmn hdn few mst fal al sv hi sn ch_4 my_5 kp_24 tx rd wy)]) → va_S A s.heap H locs → ∀ (ls : Array Slot), lv_has ls 8 [(0, .ref h0), (1, .int p0), (2, .int x_32), (3, .int v3_12), (4, .int x_28), (6, .int v6_15), (7, .int r_26)] → W p l e rm_X6_sum s m ([.ref h0, .int p0] : List Value).toArray below meth c H locs 0 0 (MQ below (mQi D (mTY cI cC cT) out A (List.flatten [(W_M cI cC cT h0 h1 h2 h3 h4 h5 h6 h7 h8 h9 h10 hlg tk fx xl xp rmn hdn few mst fal al sv hi sn o_ch o_my o_kp tx rd wy)])) ([.ref h0, .int p0] : List Value).toArray s 0 0 A) (F0 m 102 ls [.int x_36]) := by
                intro H locs hP hD hS ls hl
                refine lv_istore (lv' := [(5, .int x_36), (0, .ref h0), (1, .int p0), (2, .int x_32), (3, .int v3_12), (4, .int x_28), (6, .int v6_15), (7, .int r_26)]) hx hb dX6_sum_102 hl (by decide) rfl (fun ls hl => ?_)
                refine lv_iload hx hb dX6_sum_104 (lv_at hl 7 rfl) ?_
                refine lv_iload_n hx hb dX6_sum_106 rfl (lv_at hl 4 rfl) ?_
                obtain ⟨x_40, q_42, hf⟩ := bnd hf
                have K_41 : ∀ (H : Heap) (locs : List Loc), va_P D vwCl (List.flatten [(W_M cI cC cT h0 h1 h2 h3 h4 h5 h6 h7 h8 h9 h10 hlg tk fx xl xp rmn hdn few mst fal al sv hi sn ch_4 my_5 kp_24 tx rd wy)]) H → va_D A (List.flatten [(W_M cI cC cT h0 h1 h2 h3 h4 h5 h6 h7 h8 h9 h10 hlg tk fx xl xp rmn hdn few mst fal al sv hi sn ch_4 my_5 kp_24 tx rd wy)]) → va_S A s.heap H locs → ∀ (ls : Array Slot), lv_has ls 8 [(0, .ref h0), (1, .int p0), (2, .int x_32), (4, .int x_28), (5, .int x_36), (6, .int v6_15)] → W p l e rm_X6_sum s m ([.ref h0, .int p0] : List Value).toArray below meth c H locs 0 0 (MQ below (mQi D (mTY cI cC cT) out A (List.flatten [(W_M cI cC cT h0 h1 h2 h3 h4 h5 h6 h7 h8 h9 h10 hlg tk fx xl xp rmn hdn few mst fal al sv hi sn o_ch o_my o_kp tx rd wy)])) ([.ref h0, .int p0] : List Value).toArray s 0 0 A) (F0 m 116 ls [.int x_40]) := by
                  intro H locs hP hD hS ls hl
                  refine lv_istore_n (lv' := [(3, .int x_40), (0, .ref h0), (1, .int p0), (2, .int x_32), (4, .int x_28), (5, .int x_36), (6, .int v6_15)]) hx hb dX6_sum_116 rfl hl (by decide) rfl (fun ls hl => ?_)
                  refine lv_iinc (v := v6_15 + 1) (lv' := [(6, .int (v6_15 + 1)), (3, .int x_40), (0, .ref h0), (1, .int p0), (2, .int x_32), (4, .int x_28), (5, .int x_36)]) hx hb dX6_sum_117 hl (k := 6) rfl rfl (by decide) rfl (fun ls hl => ?_)
                  refine lv_goto (tgt := 40) hx hb dX6_sum_120 (by decide) ?_
                  cases hf
                  have hf := ho_17.1 _ rfl
                  exact ih_17 _ _ _ _ _ _ hf _ _ hP hD hS _ (lv_sub hl [2, 3, 4, 1, 5, 6, 0] rfl)
                have hf := q_42
                refine lv_icmp_le (tgt := 115) hx hb dX6_sum_107 (by decide) (fun c_43 => ?_) (fun c_43 => ?_)
                · have hf := ite_t hf c_43
                  refine lv_iload_n hx hb dX6_sum_115 rfl (lv_at hl 4 rfl) ?_
                  cases hf
                  exact K_41 _ _ hP hD hS _ (lv_sub hl [1, 2, 3, 5, 0, 6] rfl)
                · have hf := ite_f hf c_43
                  refine lv_iload hx hb dX6_sum_110 (lv_at hl 7 rfl) ?_
                  refine lv_goto (tgt := 116) hx hb dX6_sum_112 (by decide) ?_
                  cases hf
                  exact K_41 _ _ hP hD hS _ (lv_sub hl [1, 2, 3, 5, 0, 6] rfl)
              have hf := q_38
              refine lv_icmp_le (tgt := 100) hx hb dX6_sum_92 (by decide) (fun c_39 => ?_) (fun c_39 => ?_)
              · have hf := ite_t hf c_39
                refine lv_iload hx hb dX6_sum_100 (lv_at hl 5 rfl) ?_
                cases hf
                exact K_37 _ _ hP hD hS _ (lv_sub hl [1, 2, 0, 3, 4, 6, 7] rfl)
              · have hf := ite_f hf c_39
                refine lv_iload hx hb dX6_sum_95 (lv_at hl 6 rfl) ?_
                refine lv_goto (tgt := 102) hx hb dX6_sum_97 (by decide) ?_
                cases hf
                exact K_37 _ _ hP hD hS _ (lv_sub hl [1, 2, 0, 3, 4, 6, 7] rfl)
            have hf := q_34
            refine lv_icmp_ge (tgt := 87) hx hb dX6_sum_79 (by decide) (fun c_35 => ?_) (fun c_35 => ?_)
            · have hf := ite_t hf c_35
              refine lv_iload_n hx hb dX6_sum_87 rfl (lv_at hl 3 rfl) ?_
              cases hf
              exact K_33 _ _ hP hD hS _ (lv_sub hl [1, 2, 4, 0, 5, 6, 7] rfl)
            · have hf := ite_f hf c_35
              refine lv_iload hx hb dX6_sum_82 (lv_at hl 7 rfl) ?_
              refine lv_goto (tgt := 88) hx hb dX6_sum_84 (by decide) ?_
              cases hf
              exact K_33 _ _ hP hD hS _ (lv_sub hl [1, 2, 4, 0, 5, 6, 7] rfl)
          have hf := q_30
          refine lv_icmp_ge (tgt := 72) hx hb dX6_sum_64 (by decide) (fun c_31 => ?_) (fun c_31 => ?_)
          · have hf := ite_t hf c_31
            refine lv_iload hx hb dX6_sum_72 (lv_at hl 5 rfl) ?_
            cases hf
            exact K_29 _ _ hP hD hS _ (lv_sub hl [1, 2, 3, 4, 6, 7, 0] rfl)
          · have hf := ite_f hf c_31
            refine lv_iload hx hb dX6_sum_67 (lv_at hl 7 rfl) ?_
            refine lv_goto (tgt := 74) hx hb dX6_sum_69 (by decide) ?_
            cases hf
            exact K_29 _ _ hP hD hS _ (lv_sub hl [1, 2, 3, 4, 6, 7, 0] rfl)
    exact LP_17 _ _ _ _ _ _ _ hf _ _ hP hD hS _ (lv_sub hl [5, 6, 4, 3, 2, 1, 0] rfl)
  · have hf := ite_t hf c_3
    refine lv_bipush (v := -2) hx hb dX6_sum_12 (by decide) ?_
    cases hf
    exact mIret hx hb hr hlocks hP hD hK hS dX6_sum_14
abbrev rm_X6_type : Room := { frames := 0, cells := 0, slots := 0, locals := 0 }
set_option maxHeartbeats 4000000 in
set_option maxRecDepth 100000 in
theorem c_X6_type (l : Launch) (D : va_G) (cI cC cT : ClassId) (h0 h1 h2 h3 h4 h5 h6 h7 h8 h9 h10 : Nat) (hlg : Int32) (tk : Int32) (fx : Int32) (xl : Int32) (xp : Int32) (rmn : Int32) (hdn : Int32) (few : Int32) (mst : Int32) (fal : Int32) (al : Nat → Int32) (sv : Nat → Int32) (hi : Nat → Int32) (sn : Nat → Int32) (ch : Nat → Int32) (my : Nat → Int32) (kp : Nat → Int32) (tx : Nat → Int32) (rd : Nat → Int32) (wy : Nat → Int32) (sz : Nat) (p0 : Int32) (out : Int32) (o_xl : Int32) (o_tx : Nat → Int32) (hf : f_X6_type xl tx p0 = some ((out, o_xl, o_tx))) : Met l yX6_type wsX6_type rm_X6_type (mP D (mTY cI cC cT) [.ref h0, .int p0] (List.flatten [(W_M cI cC cT h0 h1 h2 h3 h4 h5 h6 h7 h8 h9 h10 hlg tk fx xl xp rmn hdn few mst fal al sv hi sn ch my kp tx rd wy)]) sz) (mQi D (mTY cI cC cT) out (va_A (List.flatten [(W_M cI cC cT h0 h1 h2 h3 h4 h5 h6 h7 h8 h9 h10 hlg tk fx xl xp rmn hdn few mst fal al sv hi sn ch my kp tx rd wy)]) sz) (List.flatten [(W_M cI cC cT h0 h1 h2 h3 h4 h5 h6 h7 h8 h9 h10 hlg tk fx o_xl xp rmn hdn few mst fal al sv hi sn ch my kp o_tx rd wy)])) 0 0 (va_A (List.flatten [(W_M cI cC cT h0 h1 h2 h3 h4 h5 h6 h7 h8 h9 h10 hlg tk fx xl xp rmn hdn few mst fal al sv hi sn ch my kp tx rd wy)]) sz) := by
  refine mEnt (cc := cX6_type) (maxL := 2) (ret := (some .int)) (own := RX6) (Qq := fun A => mQi D (mTY cI cC cT) out A (List.flatten [(W_M cI cC cT h0 h1 h2 h3 h4 h5 h6 h7 h8 h9 h10 hlg tk fx o_xl xp rmn hdn few mst fal al sv hi sn ch my kp o_tx rd wy)])) (by decide) rfl rfl (Nat.le_of_ble_eq_true rfl) ?_
  intro p e s m below meth c A ls H locs hx hb hr hml hlocks hown hts hN hA hP hK hD hS hl
  have hin_X6 : ∀ w ∈ u_ws RX6 TX6 20, w ∈ wsX6_type := by decide +kernel
  have fl_35 := hts (.fieldLink RX6 35 "SureMendingsModel" "text" "[I") (by decide +kernel)
  have fl_116 := hts (.fieldLink RX6 116 "SureMendingsModel" "textLong" "I") (by decide +kernel)
  have hl : lv_has ls 2 [(0, .ref h0), (1, .int p0)] := hl
  unfold f_X6_type at hf
  refine lv_aload_n hx hb dX6_type_0 rfl (lv_at hl 0 rfl) ?_
  refine va_get (D := D) (ci := 6) (v := .int xl) (C := RX6) (T := TX6) (N := 20) hx hb hts hin_X6 hown hK hP 0 rfl rfl 11 (by decide) fl_116 (fun _ h9 => h9) rfl dX6_type_1 ?_
  refine lv_bipush (v := 80) hx hb dX6_type_4 (by decide) ?_
  refine lv_icmp_ne (tgt := 12) hx hb dX6_type_6 (by decide) (fun c_1 => ?_) (fun c_1 => ?_)
  · have hf := ite_f hf c_1
    refine lv_aload_n hx hb dX6_type_12 rfl (lv_at hl 0 rfl) ?_
    refine va_get (D := D) (ci := 6) (v := .ref h8) (C := RX6) (T := TX6) (N := 20) hx hb hts hin_X6 hown hK hP 0 rfl rfl 10 (by decide) fl_35 (fun _ h9 => h9) rfl dX6_type_13 ?_
    refine lv_aload_n hx hb dX6_type_16 rfl (lv_at hl 0 rfl) ?_
    refine va_get (D := D) (ci := 6) (v := .int xl) (C := RX6) (T := TX6) (N := 20) hx hb hts hin_X6 hown hK hP 0 rfl rfl 11 (by decide) fl_116 (fun _ h9 => h9) rfl dX6_type_17 ?_
    refine lv_iload_n hx hb dX6_type_20 rfl (lv_at hl 1 rfl) ?_
    obtain ⟨h_2, hf⟩ := grd hf
    refine va_iast hx hb hK hP hD hS 8 0 rfl rfl h_2 dX6_type_21 (fun H locs hP hD hS => ?_)
    have hP : va_P D vwCl (List.flatten [(W_M cI cC cT h0 h1 h2 h3 h4 h5 h6 h7 h8 h9 h10 hlg tk fx xl xp rmn hdn few mst fal al sv hi sn ch my kp (upd tx xl.toNatClampNeg p0) rd wy)]) H := hP
    have hD : va_D A (List.flatten [(W_M cI cC cT h0 h1 h2 h3 h4 h5 h6 h7 h8 h9 h10 hlg tk fx xl xp rmn hdn few mst fal al sv hi sn ch my kp (upd tx xl.toNatClampNeg p0) rd wy)]) := hD
    refine lv_aload_n hx hb dX6_type_22 rfl (lv_at hl 0 rfl) ?_
    refine lv_dup hx hb dX6_type_23 rfl ?_
    refine va_get (D := D) (ci := 6) (v := .int xl) (C := RX6) (T := TX6) (N := 20) hx hb hts hin_X6 hown hK hP 0 rfl rfl 11 (by decide) fl_116 (fun _ h9 => h9) rfl dX6_type_24 ?_
    refine lv_iconst (v := 1) hx hb dX6_type_27 (by decide) ?_
    refine lv_iadd hx hb dX6_type_28 ?_
    refine va_put (D := D) (ci := 6) (v := .int (xl + 1)) (ty := .int) (C := RX6) (T := TX6) (N := 20) hx hb hts hin_X6 tyX6 tyX6_ok nmX6 hown hK hP hD hS 0 rfl rfl 11 (by decide) fl_116 (fun _ h9 => h9) rfl (by decide +kernel) rfl rfl (Nat.le_of_ble_eq_true rfl) dX6_type_29 (fun H locs hP hD hS => ?_)
    have hP : va_P D vwCl (List.flatten [(W_M cI cC cT h0 h1 h2 h3 h4 h5 h6 h7 h8 h9 h10 hlg tk fx (xl + 1) xp rmn hdn few mst fal al sv hi sn ch my kp (upd tx xl.toNatClampNeg p0) rd wy)]) H := hP
    have hD : va_D A (List.flatten [(W_M cI cC cT h0 h1 h2 h3 h4 h5 h6 h7 h8 h9 h10 hlg tk fx (xl + 1) xp rmn hdn few mst fal al sv hi sn ch my kp (upd tx xl.toNatClampNeg p0) rd wy)]) := hD
    refine lv_aload_n hx hb dX6_type_32 rfl (lv_at hl 0 rfl) ?_
    refine va_get (D := D) (ci := 6) (v := .int (xl + 1)) (C := RX6) (T := TX6) (N := 20) hx hb hts hin_X6 hown hK hP 0 rfl rfl 11 (by decide) fl_116 (fun _ h9 => h9) rfl dX6_type_33 ?_
    cases hf
    exact mIret hx hb hr hlocks hP hD hK hS dX6_type_36
  · have hf := ite_t hf c_1
    refine lv_bipush (v := -3) hx hb dX6_type_9 (by decide) ?_
    cases hf
    exact mIret hx hb hr hlocks hP hD hK hS dX6_type_11
abbrev rm_X6_undo : Room := { frames := 0, cells := 0, slots := 0, locals := 0 }
set_option maxHeartbeats 4000000 in
set_option maxRecDepth 100000 in
theorem c_X6_undo (l : Launch) (D : va_G) (cI cC cT : ClassId) (h0 h1 h2 h3 h4 h5 h6 h7 h8 h9 h10 : Nat) (hlg : Int32) (tk : Int32) (fx : Int32) (xl : Int32) (xp : Int32) (rmn : Int32) (hdn : Int32) (few : Int32) (mst : Int32) (fal : Int32) (al : Nat → Int32) (sv : Nat → Int32) (hi : Nat → Int32) (sn : Nat → Int32) (ch : Nat → Int32) (my : Nat → Int32) (kp : Nat → Int32) (tx : Nat → Int32) (rd : Nat → Int32) (wy : Nat → Int32) (sz : Nat) (out : Int32) (o_hlg : Int32) (o_al : Nat → Int32) (hf : f_X6_undo hlg al hi = some ((out, o_hlg, o_al))) : Met l yX6_undo wsX6_undo rm_X6_undo (mP D (mTY cI cC cT) [.ref h0] (List.flatten [(W_M cI cC cT h0 h1 h2 h3 h4 h5 h6 h7 h8 h9 h10 hlg tk fx xl xp rmn hdn few mst fal al sv hi sn ch my kp tx rd wy)]) sz) (mQi D (mTY cI cC cT) out (va_A (List.flatten [(W_M cI cC cT h0 h1 h2 h3 h4 h5 h6 h7 h8 h9 h10 hlg tk fx xl xp rmn hdn few mst fal al sv hi sn ch my kp tx rd wy)]) sz) (List.flatten [(W_M cI cC cT h0 h1 h2 h3 h4 h5 h6 h7 h8 h9 h10 o_hlg tk fx xl xp rmn hdn few mst fal o_al sv hi sn ch my kp tx rd wy)])) 0 0 (va_A (List.flatten [(W_M cI cC cT h0 h1 h2 h3 h4 h5 h6 h7 h8 h9 h10 hlg tk fx xl xp rmn hdn few mst fal al sv hi sn ch my kp tx rd wy)]) sz) := by
  refine mEnt (cc := cX6_undo) (maxL := 2) (ret := (some .int)) (own := RX6) (Qq := fun A => mQi D (mTY cI cC cT) out A (List.flatten [(W_M cI cC cT h0 h1 h2 h3 h4 h5 h6 h7 h8 h9 h10 o_hlg tk fx xl xp rmn hdn few mst fal o_al sv hi sn ch my kp tx rd wy)])) (by decide) rfl rfl (Nat.le_of_ble_eq_true rfl) ?_
  intro p e s m below meth c A ls H locs hx hb hr hml hlocks hown hts hN hA hP hK hD hS hl
  have hin_X6 : ∀ w ∈ u_ws RX6 TX6 20, w ∈ wsX6_undo := by decide +kernel
  have fl_7 := hts (.fieldLink RX6 7 "SureMendingsModel" "all" "[I") (by decide +kernel)
  have fl_16 := hts (.fieldLink RX6 16 "SureMendingsModel" "history" "[I") (by decide +kernel)
  have fl_44 := hts (.fieldLink RX6 44 "SureMendingsModel" "historyLong" "I") (by decide +kernel)
  have hl : lv_has ls 2 [(0, .ref h0)] := hl
  unfold f_X6_undo at hf
  refine lv_aload_n hx hb dX6_undo_0 rfl (lv_at hl 0 rfl) ?_
  refine va_get (D := D) (ci := 6) (v := .int hlg) (C := RX6) (T := TX6) (N := 20) hx hb hts hin_X6 hown hK hP 0 rfl rfl 3 (by decide) fl_44 (fun _ h9 => h9) rfl dX6_undo_1 ?_
  refine lv_if_ne (tgt := 10) hx hb dX6_undo_4 (by decide) (fun c_1 => ?_) (fun c_1 => ?_)
  · have hf := ite_f hf c_1
    refine lv_aload_n hx hb dX6_undo_10 rfl (lv_at hl 0 rfl) ?_
    refine lv_dup hx hb dX6_undo_11 rfl ?_
    refine va_get (D := D) (ci := 6) (v := .int hlg) (C := RX6) (T := TX6) (N := 20) hx hb hts hin_X6 hown hK hP 0 rfl rfl 3 (by decide) fl_44 (fun _ h9 => h9) rfl dX6_undo_12 ?_
    refine lv_iconst (v := 1) hx hb dX6_undo_15 (by decide) ?_
    refine lv_isub hx hb dX6_undo_16 ?_
    refine va_put (D := D) (ci := 6) (v := .int (hlg - 1)) (ty := .int) (C := RX6) (T := TX6) (N := 20) hx hb hts hin_X6 tyX6 tyX6_ok nmX6 hown hK hP hD hS 0 rfl rfl 3 (by decide) fl_44 (fun _ h9 => h9) rfl (by decide +kernel) rfl rfl (Nat.le_of_ble_eq_true rfl) dX6_undo_17 (fun H locs hP hD hS => ?_)
    have hP : va_P D vwCl (List.flatten [(W_M cI cC cT h0 h1 h2 h3 h4 h5 h6 h7 h8 h9 h10 (hlg - 1) tk fx xl xp rmn hdn few mst fal al sv hi sn ch my kp tx rd wy)]) H := hP
    have hD : va_D A (List.flatten [(W_M cI cC cT h0 h1 h2 h3 h4 h5 h6 h7 h8 h9 h10 (hlg - 1) tk fx xl xp rmn hdn few mst fal al sv hi sn ch my kp tx rd wy)]) := hD
    refine lv_iconst (v := 0) hx hb dX6_undo_20 (by decide) ?_
    refine lv_istore_n (lv' := [(1, .int 0), (0, .ref h0)]) hx hb dX6_undo_21 rfl hl (by decide) rfl (fun ls hl => ?_)
    have LP_4 : ∀ (n_4 : Nat) (v1_2 : Int32) (al_3 : Nat → Int32), iter n_4 (b_X6_undo_1 hlg hi) ((v1_2, al_3)) = some ((out, o_hlg, o_al)) → ∀ (H : Heap) (locs : List Loc), va_P D vwCl (List.flatten [(W_M cI cC cT h0 h1 h2 h3 h4 h5 h6 h7 h8 h9 h10 (hlg - 1) tk fx xl xp rmn hdn few mst fal al_3 sv hi sn ch my kp tx rd wy)]) H → va_D A (List.flatten [(W_M cI cC cT h0 h1 h2 h3 h4 h5 h6 h7 h8 h9 h10 (hlg - 1) tk fx xl xp rmn hdn few mst fal al_3 sv hi sn ch my kp tx rd wy)]) → va_S A s.heap H locs → ∀ (ls : Array Slot), lv_has ls 2 [(0, .ref h0), (1, .int v1_2)] → W p l e rm_X6_undo s m ([.ref h0] : List Value).toArray below meth c H locs 0 0 (MQ below (mQi D (mTY cI cC cT) out A (List.flatten [(W_M cI cC cT h0 h1 h2 h3 h4 h5 h6 h7 h8 h9 h10 o_hlg tk fx xl xp rmn hdn few mst fal o_al sv hi sn ch my kp tx rd wy)])) ([.ref h0] : List Value).toArray s 0 0 A) (F0 m 22 ls []) := by
      intro n_4
      induction n_4 with
      | zero => intro v1_2 al_3 hf; exact (iter_zero hf).elim
      | succ n_4 ih_4 =>
        intro v1_2 al_3 hf H locs hP hD hS ls hl
        obtain ⟨o_4, hf, ho_4⟩ := iter_succ hf
        dsimp only [b_X6_undo_1] at hf
        refine lv_iload_n hx hb dX6_undo_22 rfl (lv_at hl 1 rfl) ?_
        refine lv_bipush (v := 82) hx hb dX6_undo_23 (by decide) ?_
        refine lv_icmp_ge (tgt := 54) hx hb dX6_undo_25 (by decide) (fun c_5 => ?_) (fun c_5 => ?_)
        · have hf := ite_t hf c_5
          refine lv_aload_n hx hb dX6_undo_54 rfl (lv_at hl 0 rfl) ?_
          refine va_get (D := D) (ci := 6) (v := .int (hlg - 1)) (C := RX6) (T := TX6) (N := 20) hx hb hts hin_X6 hown hK hP 0 rfl rfl 3 (by decide) fl_44 (fun _ h9 => h9) rfl dX6_undo_55 ?_
          cases hf
          have hf := ho_4.2 _ rfl
          cases hf
          exact mIret hx hb hr hlocks hP hD hK hS dX6_undo_58
        · have hf := ite_f hf c_5
          refine lv_aload_n hx hb dX6_undo_28 rfl (lv_at hl 0 rfl) ?_
          refine va_get (D := D) (ci := 6) (v := .ref h1) (C := RX6) (T := TX6) (N := 20) hx hb hts hin_X6 hown hK hP 0 rfl rfl 0 (by decide) fl_7 (fun _ h9 => h9) rfl dX6_undo_29 ?_
          refine lv_iload_n hx hb dX6_undo_32 rfl (lv_at hl 1 rfl) ?_
          refine lv_aload_n hx hb dX6_undo_33 rfl (lv_at hl 0 rfl) ?_
          refine va_get (D := D) (ci := 6) (v := .ref h3) (C := RX6) (T := TX6) (N := 20) hx hb hts hin_X6 hown hK hP 0 rfl rfl 2 (by decide) fl_16 (fun _ h9 => h9) rfl dX6_undo_34 ?_
          refine lv_bipush (v := 82) hx hb dX6_undo_37 (by decide) ?_
          refine lv_aload_n hx hb dX6_undo_39 rfl (lv_at hl 0 rfl) ?_
          refine va_get (D := D) (ci := 6) (v := .int (hlg - 1)) (C := RX6) (T := TX6) (N := 20) hx hb hts hin_X6 hown hK hP 0 rfl rfl 3 (by decide) fl_44 (fun _ h9 => h9) rfl dX6_undo_40 ?_
          refine lv_imul hx hb dX6_undo_43 ?_
          refine lv_iload_n hx hb dX6_undo_44 rfl (lv_at hl 1 rfl) ?_
          refine lv_iadd hx hb dX6_undo_45 ?_
          obtain ⟨h_6, hf⟩ := grd hf
          refine va_iald hx hb hK hP 3 0 rfl rfl h_6 dX6_undo_46 ?_
          obtain ⟨h_7, hf⟩ := grd hf
          refine va_iast hx hb hK hP hD hS 1 0 rfl rfl h_7 dX6_undo_47 (fun H locs hP hD hS => ?_)
          have hP : va_P D vwCl (List.flatten [(W_M cI cC cT h0 h1 h2 h3 h4 h5 h6 h7 h8 h9 h10 (hlg - 1) tk fx xl xp rmn hdn few mst fal (upd al_3 v1_2.toNatClampNeg (hi ((82 * (hlg - 1)) + v1_2).toNatClampNeg)) sv hi sn ch my kp tx rd wy)]) H := hP
          have hD : va_D A (List.flatten [(W_M cI cC cT h0 h1 h2 h3 h4 h5 h6 h7 h8 h9 h10 (hlg - 1) tk fx xl xp rmn hdn few mst fal (upd al_3 v1_2.toNatClampNeg (hi ((82 * (hlg - 1)) + v1_2).toNatClampNeg)) sv hi sn ch my kp tx rd wy)]) := hD
          refine lv_iinc (v := v1_2 + 1) (lv' := [(1, .int (v1_2 + 1)), (0, .ref h0)]) hx hb dX6_undo_48 hl (k := 1) rfl rfl (by decide) rfl (fun ls hl => ?_)
          refine lv_goto (tgt := 22) hx hb dX6_undo_51 (by decide) ?_
          cases hf
          have hf := ho_4.1 _ rfl
          exact ih_4 _ _ hf _ _ hP hD hS _ (lv_sub hl [1, 0] rfl)
    exact LP_4 _ _ _ hf _ _ hP hD hS _ (lv_sub hl [1, 0] rfl)
  · have hf := ite_t hf c_1
    refine lv_bipush (v := -5) hx hb dX6_undo_7 (by decide) ?_
    cases hf
    exact mIret hx hb hr hlocks hP hD hK hS dX6_undo_9
abbrev rm_X6_value : Room := { frames := 6, cells := 0, slots := 0, locals := 135 }
set_option maxHeartbeats 4000000 in
set_option maxRecDepth 100000 in
theorem c_X6_value (l : Launch) (D : va_G) (cI cC cT : ClassId) (h0 h1 h2 h3 h4 h5 h6 h7 h8 h9 h10 : Nat) (hlg : Int32) (tk : Int32) (fx : Int32) (xl : Int32) (xp : Int32) (rmn : Int32) (hdn : Int32) (few : Int32) (mst : Int32) (fal : Int32) (al : Nat → Int32) (sv : Nat → Int32) (hi : Nat → Int32) (sn : Nat → Int32) (ch : Nat → Int32) (my : Nat → Int32) (kp : Nat → Int32) (tx : Nat → Int32) (rd : Nat → Int32) (wy : Nat → Int32) (sz : Nat) (p0 : Int32) (p1 : Int32) (out : Int32) (o_hdn : Int32) (o_few : Int32) (o_mst : Int32) (o_fal : Int32) (o_ch : Nat → Int32) (o_my : Nat → Int32) (o_kp : Nat → Int32) (hf : f_X6_value fx hdn few mst fal al ch my kp p0 p1 = some ((out, o_hdn, o_few, o_mst, o_fal, o_ch, o_my, o_kp))) : Met l yX6_value wsX6_value rm_X6_value (mP D (mTY cI cC cT) [.ref h0, .int p0, .int p1] (List.flatten [(W_M cI cC cT h0 h1 h2 h3 h4 h5 h6 h7 h8 h9 h10 hlg tk fx xl xp rmn hdn few mst fal al sv hi sn ch my kp tx rd wy)]) sz) (mQi D (mTY cI cC cT) out (va_A (List.flatten [(W_M cI cC cT h0 h1 h2 h3 h4 h5 h6 h7 h8 h9 h10 hlg tk fx xl xp rmn hdn few mst fal al sv hi sn ch my kp tx rd wy)]) sz) (List.flatten [(W_M cI cC cT h0 h1 h2 h3 h4 h5 h6 h7 h8 h9 h10 hlg tk fx xl xp rmn o_hdn o_few o_mst o_fal al sv hi sn o_ch o_my o_kp tx rd wy)])) 0 0 (va_A (List.flatten [(W_M cI cC cT h0 h1 h2 h3 h4 h5 h6 h7 h8 h9 h10 hlg tk fx xl xp rmn hdn few mst fal al sv hi sn ch my kp tx rd wy)]) sz) := by
  refine mEnt (cc := cX6_value) (maxL := 3) (ret := (some .int)) (own := RX6) (Qq := fun A => mQi D (mTY cI cC cT) out A (List.flatten [(W_M cI cC cT h0 h1 h2 h3 h4 h5 h6 h7 h8 h9 h10 hlg tk fx xl xp rmn o_hdn o_few o_mst o_fal al sv hi sn o_ch o_my o_kp tx rd wy)])) (by decide) rfl rfl (Nat.le_of_ble_eq_true rfl) ?_
  intro p e s m below meth c A ls H locs hx hb hr hml hlocks hown hts hN hA hP hK hD hS hl
  have hin_X6 : ∀ w ∈ u_ws RX6 TX6 20, w ∈ wsX6_value := by decide +kernel
  have fl_152 := hts (.fieldLink RX6 152 "SureMendingsModel" "holding" "I") (by decide +kernel)
  have fl_155 := hts (.fieldLink RX6 155 "SureMendingsModel" "fewest" "I") (by decide +kernel)
  have fl_158 := hts (.fieldLink RX6 158 "SureMendingsModel" "most" "I") (by decide +kernel)
  have fl_161 := hts (.fieldLink RX6 161 "SureMendingsModel" "failing" "I") (by decide +kernel)
  have hl : lv_has ls 3 [(0, .ref h0), (1, .int p0), (2, .int p1)] := hl
  unfold f_X6_value at hf
  refine lv_iload_n hx hb dX6_value_0 rfl (lv_at hl 1 rfl) ?_
  obtain ⟨r_1, q_2, hf⟩ := bnd hf
  refine mGoiS (segs := [(W_M cI cC cT h0 h1 h2 h3 h4 h5 h6 h7 h8 h9 h10 hlg tk fx xl xp rmn hdn few mst fal al sv hi sn ch my kp tx rd wy)]) (wcs := []) (w1s := []) (w2s := [(W_M cI cC cT h0 h1 h2 h3 h4 h5 h6 h7 h8 h9 h10 hlg tk fx xl xp rmn hdn few mst fal al sv hi sn ch my kp tx rd wy)]) rfl rfl (va_runS (As := [.int p0]) (rest := []) ⟨hx, hb, hml, hown, hts⟩ (c_X6_isValue l D cI cC cT H.size p0 r_1 q_2) (va_cwS 1 hts gX6_value_X6_isValue rfl rfl rfl (by decide +kernel) ⟨Nat.le_of_ble_eq_true rfl, Nat.le_of_ble_eq_true rfl⟩) (mPreSS [] rfl hP hD hK hN [] rfl (by decide)) rfl rfl hl.1 rfl (lv_room (Nat.le_of_ble_eq_true rfl)) dX6_value_1 ⟨Nat.zero_le _, Nat.zero_le _⟩) hP hD hS hA [] rfl rfl rfl rfl (fun H locs hP hD hS => ?_)
  refine lv_if_eq (tgt := 19) hx hb dX6_value_4 (by decide) (fun c_3 => ?_) (fun c_3 => ?_)
  · have hf := ite_t hf c_3
    refine lv_bipush (v := -2) hx hb dX6_value_19 (by decide) ?_
    cases hf
    exact mIret hx hb hr hlocks hP hD hK hS dX6_value_21
  · have hf := ite_f hf c_3
    refine lv_iload_n hx hb dX6_value_7 rfl (lv_at hl 2 rfl) ?_
    refine lv_i2l hx hb dX6_value_8 rfl ?_
    refine lv_lconst (v := 0) hx hb dX6_value_9 rfl ?_
    refine lv_ldc2 (v := 4) hx hb hown (hts (.constantLong RX6 179 (4)) (by decide +kernel)) dX6_value_10 ?_
    obtain ⟨r_4, q_5, hf⟩ := bnd hf
    refine mGoiS (segs := [(W_M cI cC cT h0 h1 h2 h3 h4 h5 h6 h7 h8 h9 h10 hlg tk fx xl xp rmn hdn few mst fal al sv hi sn ch my kp tx rd wy)]) (wcs := []) (w1s := []) (w2s := [(W_M cI cC cT h0 h1 h2 h3 h4 h5 h6 h7 h8 h9 h10 hlg tk fx xl xp rmn hdn few mst fal al sv hi sn ch my kp tx rd wy)]) rfl rfl (va_runS (As := [.long (Int32.toInt64 p1), .long 0, .long 4]) (rest := []) ⟨hx, hb, hml, hown, hts⟩ (c_X6_in l D cI cC cT H.size (Int32.toInt64 p1) 0 4 r_4 q_5) (va_cwS 3 hts gX6_value_X6_in rfl rfl rfl (by decide +kernel) ⟨Nat.le_of_ble_eq_true rfl, Nat.le_of_ble_eq_true rfl⟩) (mPreSS [] rfl hP hD hK hN [] rfl (by decide)) rfl rfl hl.1 rfl (lv_room (Nat.le_of_ble_eq_true rfl)) dX6_value_13 ⟨Nat.zero_le _, Nat.zero_le _⟩) hP hD hS hA [] rfl rfl rfl rfl (fun H locs hP hD hS => ?_)
    refine lv_if_ne (tgt := 22) hx hb dX6_value_16 (by decide) (fun c_6 => ?_) (fun c_6 => ?_)
    · have hf := ite_f hf c_6
      refine lv_aload_n hx hb dX6_value_22 rfl (lv_at hl 0 rfl) ?_
      refine lv_iload_n hx hb dX6_value_23 rfl (lv_at hl 1 rfl) ?_
      refine lv_bipush (v := 97) hx hb dX6_value_24 (by decide) ?_
      refine lv_isub hx hb dX6_value_26 ?_
      obtain ⟨⟨hdn_7, few_8, mst_9, fal_10, ch_11, my_12, kp_13⟩, q_14, hf⟩ := bnd hf
      refine mGovS (segs := [(W_M cI cC cT h0 h1 h2 h3 h4 h5 h6 h7 h8 h9 h10 hlg tk fx xl xp rmn hdn few mst fal al sv hi sn ch my kp tx rd wy)]) (wcs := [(W_M cI cC cT h0 h1 h2 h3 h4 h5 h6 h7 h8 h9 h10 hlg tk fx xl xp rmn hdn few mst fal al sv hi sn ch my kp tx rd wy)]) (w1s := [(W_M cI cC cT h0 h1 h2 h3 h4 h5 h6 h7 h8 h9 h10 hlg tk fx xl xp rmn hdn_7 few_8 mst_9 fal_10 al sv hi sn ch_11 my_12 kp_13 tx rd wy)]) (w2s := [(W_M cI cC cT h0 h1 h2 h3 h4 h5 h6 h7 h8 h9 h10 hlg tk fx xl xp rmn hdn_7 few_8 mst_9 fal_10 al sv hi sn ch_11 my_12 kp_13 tx rd wy)]) rfl rfl (va_runV (As := [.int (p0 - 97)]) (rest := []) ⟨hx, hb, hml, hown, hts⟩ (c_X6_asksValue l D cI cC cT h0 h1 h2 h3 h4 h5 h6 h7 h8 h9 h10 hlg tk fx xl xp rmn hdn few mst fal al sv hi sn ch my kp tx rd wy H.size (p0 - 97) hdn_7 few_8 mst_9 fal_10 ch_11 my_12 kp_13 q_14) (cwV 1 hts gX6_value_X6_asksValue rfl rfl rfl (by decide +kernel) ⟨Nat.le_of_ble_eq_true rfl, Nat.le_of_ble_eq_true rfl⟩) (mPreVS [(W_M cI cC cT h0 h1 h2 h3 h4 h5 h6 h7 h8 h9 h10 hlg tk fx xl xp rmn hdn few mst fal al sv hi sn ch my kp tx rd wy)] rfl hP hD hK hN [0] rfl (by decide) (va_recv hK (sP hP 0 rfl) (ci := 6) (q0 := 0) rfl rfl)) rfl rfl hl.1 rfl (lv_room (Nat.le_of_ble_eq_true rfl)) dX6_value_27 ⟨Nat.zero_le _, Nat.zero_le _⟩) hP hD hS hA [0] rfl rfl rfl rfl (fun H locs hP hD hS => ?_)
      refine lv_iload_n hx hb dX6_value_30 rfl (lv_at hl 2 rfl) ?_
      refine lv_if_ne (tgt := 51) hx hb dX6_value_31 (by decide) (fun c_15 => ?_) (fun c_15 => ?_)
      · have hf := ite_f hf c_15
        refine lv_iload_n hx hb dX6_value_51 rfl (lv_at hl 2 rfl) ?_
        refine lv_iconst (v := 1) hx hb dX6_value_52 (by decide) ?_
        refine lv_icmp_ne (tgt := 71) hx hb dX6_value_53 (by decide) (fun c_16 => ?_) (fun c_16 => ?_)
        · have hf := ite_f hf c_16
          refine lv_iload_n hx hb dX6_value_71 rfl (lv_at hl 2 rfl) ?_
          refine lv_iconst (v := 2) hx hb dX6_value_72 (by decide) ?_
          refine lv_icmp_ne (tgt := 83) hx hb dX6_value_73 (by decide) (fun c_17 => ?_) (fun c_17 => ?_)
          · have hf := ite_f hf c_17
            refine lv_iload_n hx hb dX6_value_83 rfl (lv_at hl 2 rfl) ?_
            refine lv_iconst (v := 3) hx hb dX6_value_84 (by decide) ?_
            refine lv_icmp_ne (tgt := 95) hx hb dX6_value_85 (by decide) (fun c_18 => ?_) (fun c_18 => ?_)
            · have hf := ite_f hf c_18
              refine lv_aload_n hx hb dX6_value_95 rfl (lv_at hl 0 rfl) ?_
              refine va_get (D := D) (ci := 6) (v := .int mst_9) (C := RX6) (T := TX6) (N := 20) hx hb hts hin_X6 hown hK hP 0 rfl rfl 17 (by decide) fl_158 (fun _ h9 => h9) rfl dX6_value_96 ?_
              cases hf
              exact mIret hx hb hr hlocks hP hD hK hS dX6_value_99
            · have hf := ite_t hf c_18
              refine lv_aload_n hx hb dX6_value_88 rfl (lv_at hl 0 rfl) ?_
              refine va_get (D := D) (ci := 6) (v := .int few_8) (C := RX6) (T := TX6) (N := 20) hx hb hts hin_X6 hown hK hP 0 rfl rfl 16 (by decide) fl_155 (fun _ h9 => h9) rfl dX6_value_89 ?_
              refine lv_goto (tgt := 99) hx hb dX6_value_92 (by decide) ?_
              cases hf
              exact mIret hx hb hr hlocks hP hD hK hS dX6_value_99
          · have hf := ite_t hf c_17
            refine lv_aload_n hx hb dX6_value_76 rfl (lv_at hl 0 rfl) ?_
            refine va_get (D := D) (ci := 6) (v := .int hdn_7) (C := RX6) (T := TX6) (N := 20) hx hb hts hin_X6 hown hK hP 0 rfl rfl 15 (by decide) fl_152 (fun _ h9 => h9) rfl dX6_value_77 ?_
            refine lv_goto (tgt := 99) hx hb dX6_value_80 (by decide) ?_
            cases hf
            exact mIret hx hb hr hlocks hP hD hK hS dX6_value_99
        · have hf := ite_t hf c_16
          refine lv_aload_n hx hb dX6_value_56 rfl (lv_at hl 0 rfl) ?_
          refine va_get (D := D) (ci := 6) (v := .int hdn_7) (C := RX6) (T := TX6) (N := 20) hx hb hts hin_X6 hown hK hP 0 rfl rfl 15 (by decide) fl_152 (fun _ h9 => h9) rfl dX6_value_57 ?_
          refine lv_if_le (tgt := 67) hx hb dX6_value_60 (by decide) (fun c_19 => ?_) (fun c_19 => ?_)
          · have hf := ite_t hf c_19
            refine lv_iconst (v := 0) hx hb dX6_value_67 (by decide) ?_
            refine lv_goto (tgt := 99) hx hb dX6_value_68 (by decide) ?_
            cases hf
            exact mIret hx hb hr hlocks hP hD hK hS dX6_value_99
          · have hf := ite_f hf c_19
            refine lv_iconst (v := 1) hx hb dX6_value_63 (by decide) ?_
            refine lv_goto (tgt := 99) hx hb dX6_value_64 (by decide) ?_
            cases hf
            exact mIret hx hb hr hlocks hP hD hK hS dX6_value_99
      · have hf := ite_t hf c_15
        refine lv_aload_n hx hb dX6_value_34 rfl (lv_at hl 0 rfl) ?_
        refine va_get (D := D) (ci := 6) (v := .int fal_10) (C := RX6) (T := TX6) (N := 20) hx hb hts hin_X6 hown hK hP 0 rfl rfl 18 (by decide) fl_161 (fun _ h9 => h9) rfl dX6_value_35 ?_
        refine lv_bipush (v := -5) hx hb dX6_value_38 (by decide) ?_
        refine lv_icmp_ne (tgt := 47) hx hb dX6_value_40 (by decide) (fun c_20 => ?_) (fun c_20 => ?_)
        · have hf := ite_f hf c_20
          refine lv_iconst (v := 0) hx hb dX6_value_47 (by decide) ?_
          refine lv_goto (tgt := 99) hx hb dX6_value_48 (by decide) ?_
          cases hf
          exact mIret hx hb hr hlocks hP hD hK hS dX6_value_99
        · have hf := ite_t hf c_20
          refine lv_iconst (v := 1) hx hb dX6_value_43 (by decide) ?_
          refine lv_goto (tgt := 99) hx hb dX6_value_44 (by decide) ?_
          cases hf
          exact mIret hx hb hr hlocks hP hD hK hS dX6_value_99
    · have hf := ite_t hf c_6
      refine lv_bipush (v := -2) hx hb dX6_value_19 (by decide) ?_
      cases hf
      exact mIret hx hb hr hlocks hP hD hK hS dX6_value_21
abbrev rm_X6_way : Room := { frames := 6, cells := 0, slots := 0, locals := 135 }
set_option maxHeartbeats 4000000 in
set_option maxRecDepth 100000 in
theorem c_X6_way (l : Launch) (D : va_G) (cI cC cT : ClassId) (h0 h1 h2 h3 h4 h5 h6 h7 h8 h9 h10 : Nat) (hlg : Int32) (tk : Int32) (fx : Int32) (xl : Int32) (xp : Int32) (rmn : Int32) (hdn : Int32) (few : Int32) (mst : Int32) (fal : Int32) (al : Nat → Int32) (sv : Nat → Int32) (hi : Nat → Int32) (sn : Nat → Int32) (ch : Nat → Int32) (my : Nat → Int32) (kp : Nat → Int32) (tx : Nat → Int32) (rd : Nat → Int32) (wy : Nat → Int32) (sz : Nat) (p0 : Int32) (p1 : Int32) (p2 : Int32) (out : Int32) (o_hdn : Int32) (o_few : Int32) (o_mst : Int32) (o_fal : Int32) (o_ch : Nat → Int32) (o_my : Nat → Int32) (o_kp : Nat → Int32) (hf : f_X6_way fx hdn few mst fal al ch my kp p0 p1 p2 = some ((out, o_hdn, o_few, o_mst, o_fal, o_ch, o_my, o_kp))) : Met l yX6_way wsX6_way rm_X6_way (mP D (mTY cI cC cT) [.ref h0, .int p0, .int p1, .int p2] (List.flatten [(W_M cI cC cT h0 h1 h2 h3 h4 h5 h6 h7 h8 h9 h10 hlg tk fx xl xp rmn hdn few mst fal al sv hi sn ch my kp tx rd wy)]) sz) (mQi D (mTY cI cC cT) out (va_A (List.flatten [(W_M cI cC cT h0 h1 h2 h3 h4 h5 h6 h7 h8 h9 h10 hlg tk fx xl xp rmn hdn few mst fal al sv hi sn ch my kp tx rd wy)]) sz) (List.flatten [(W_M cI cC cT h0 h1 h2 h3 h4 h5 h6 h7 h8 h9 h10 hlg tk fx xl xp rmn o_hdn o_few o_mst o_fal al sv hi sn o_ch o_my o_kp tx rd wy)])) 0 0 (va_A (List.flatten [(W_M cI cC cT h0 h1 h2 h3 h4 h5 h6 h7 h8 h9 h10 hlg tk fx xl xp rmn hdn few mst fal al sv hi sn ch my kp tx rd wy)]) sz) := by
  refine mEnt (cc := cX6_way) (maxL := 4) (ret := (some .int)) (own := RX6) (Qq := fun A => mQi D (mTY cI cC cT) out A (List.flatten [(W_M cI cC cT h0 h1 h2 h3 h4 h5 h6 h7 h8 h9 h10 hlg tk fx xl xp rmn o_hdn o_few o_mst o_fal al sv hi sn o_ch o_my o_kp tx rd wy)])) (by decide) rfl rfl (Nat.le_of_ble_eq_true rfl) ?_
  intro p e s m below meth c A ls H locs hx hb hr hml hlocks hown hts hN hA hP hK hD hS hl
  have hin_X6 : ∀ w ∈ u_ws RX6 TX6 20, w ∈ wsX6_way := by decide +kernel
  have fl_152 := hts (.fieldLink RX6 152 "SureMendingsModel" "holding" "I") (by decide +kernel)
  have fl_155 := hts (.fieldLink RX6 155 "SureMendingsModel" "fewest" "I") (by decide +kernel)
  have fl_161 := hts (.fieldLink RX6 161 "SureMendingsModel" "failing" "I") (by decide +kernel)
  have hl : lv_has ls 4 [(0, .ref h0), (1, .int p0), (2, .int p1), (3, .int p2)] := hl
  unfold f_X6_way at hf
  refine lv_iload_n hx hb dX6_way_0 rfl (lv_at hl 1 rfl) ?_
  obtain ⟨r_1, q_2, hf⟩ := bnd hf
  refine mGoiS (segs := [(W_M cI cC cT h0 h1 h2 h3 h4 h5 h6 h7 h8 h9 h10 hlg tk fx xl xp rmn hdn few mst fal al sv hi sn ch my kp tx rd wy)]) (wcs := []) (w1s := []) (w2s := [(W_M cI cC cT h0 h1 h2 h3 h4 h5 h6 h7 h8 h9 h10 hlg tk fx xl xp rmn hdn few mst fal al sv hi sn ch my kp tx rd wy)]) rfl rfl (va_runS (As := [.int p0]) (rest := []) ⟨hx, hb, hml, hown, hts⟩ (c_X6_isKey l D cI cC cT H.size p0 r_1 q_2) (va_cwS 1 hts gX6_way_X6_isKey rfl rfl rfl (by decide +kernel) ⟨Nat.le_of_ble_eq_true rfl, Nat.le_of_ble_eq_true rfl⟩) (mPreSS [] rfl hP hD hK hN [] rfl (by decide)) rfl rfl hl.1 rfl (lv_room (Nat.le_of_ble_eq_true rfl)) dX6_way_1 ⟨Nat.zero_le _, Nat.zero_le _⟩) hP hD hS hA [] rfl rfl rfl rfl (fun H locs hP hD hS => ?_)
  refine lv_if_eq (tgt := 14) hx hb dX6_way_4 (by decide) (fun c_3 => ?_) (fun c_3 => ?_)
  · have hf := ite_t hf c_3
    refine lv_iconst (v := -1) hx hb dX6_way_14 (by decide) ?_
    cases hf
    exact mIret hx hb hr hlocks hP hD hK hS dX6_way_15
  · have hf := ite_f hf c_3
    refine lv_iload_n hx hb dX6_way_7 rfl (lv_at hl 2 rfl) ?_
    obtain ⟨r_4, q_5, hf⟩ := bnd hf
    refine mGoiS (segs := [(W_M cI cC cT h0 h1 h2 h3 h4 h5 h6 h7 h8 h9 h10 hlg tk fx xl xp rmn hdn few mst fal al sv hi sn ch my kp tx rd wy)]) (wcs := []) (w1s := []) (w2s := [(W_M cI cC cT h0 h1 h2 h3 h4 h5 h6 h7 h8 h9 h10 hlg tk fx xl xp rmn hdn few mst fal al sv hi sn ch my kp tx rd wy)]) rfl rfl (va_runS (As := [.int p1]) (rest := []) ⟨hx, hb, hml, hown, hts⟩ (c_X6_isKey l D cI cC cT H.size p1 r_4 q_5) (va_cwS 1 hts gX6_way_X6_isKey rfl rfl rfl (by decide +kernel) ⟨Nat.le_of_ble_eq_true rfl, Nat.le_of_ble_eq_true rfl⟩) (mPreSS [] rfl hP hD hK hN [] rfl (by decide)) rfl rfl hl.1 rfl (lv_room (Nat.le_of_ble_eq_true rfl)) dX6_way_8 ⟨Nat.zero_le _, Nat.zero_le _⟩) hP hD hS hA [] rfl rfl rfl rfl (fun H locs hP hD hS => ?_)
    refine lv_if_ne (tgt := 16) hx hb dX6_way_11 (by decide) (fun c_6 => ?_) (fun c_6 => ?_)
    · have hf := ite_f hf c_6
      refine lv_iload_n hx hb dX6_way_16 rfl (lv_at hl 3 rfl) ?_
      refine lv_i2l hx hb dX6_way_17 rfl ?_
      refine lv_lconst (v := 0) hx hb dX6_way_18 rfl ?_
      refine lv_ldc2 (v := 4) hx hb hown (hts (.constantLong RX6 179 (4)) (by decide +kernel)) dX6_way_19 ?_
      obtain ⟨r_7, q_8, hf⟩ := bnd hf
      refine mGoiS (segs := [(W_M cI cC cT h0 h1 h2 h3 h4 h5 h6 h7 h8 h9 h10 hlg tk fx xl xp rmn hdn few mst fal al sv hi sn ch my kp tx rd wy)]) (wcs := []) (w1s := []) (w2s := [(W_M cI cC cT h0 h1 h2 h3 h4 h5 h6 h7 h8 h9 h10 hlg tk fx xl xp rmn hdn few mst fal al sv hi sn ch my kp tx rd wy)]) rfl rfl (va_runS (As := [.long (Int32.toInt64 p2), .long 0, .long 4]) (rest := []) ⟨hx, hb, hml, hown, hts⟩ (c_X6_in l D cI cC cT H.size (Int32.toInt64 p2) 0 4 r_7 q_8) (va_cwS 3 hts gX6_way_X6_in rfl rfl rfl (by decide +kernel) ⟨Nat.le_of_ble_eq_true rfl, Nat.le_of_ble_eq_true rfl⟩) (mPreSS [] rfl hP hD hK hN [] rfl (by decide)) rfl rfl hl.1 rfl (lv_room (Nat.le_of_ble_eq_true rfl)) dX6_way_22 ⟨Nat.zero_le _, Nat.zero_le _⟩) hP hD hS hA [] rfl rfl rfl rfl (fun H locs hP hD hS => ?_)
      refine lv_if_ne (tgt := 31) hx hb dX6_way_25 (by decide) (fun c_9 => ?_) (fun c_9 => ?_)
      · have hf := ite_f hf c_9
        refine lv_aload_n hx hb dX6_way_31 rfl (lv_at hl 0 rfl) ?_
        refine lv_iload_n hx hb dX6_way_32 rfl (lv_at hl 1 rfl) ?_
        refine lv_iload_n hx hb dX6_way_33 rfl (lv_at hl 2 rfl) ?_
        obtain ⟨⟨hdn_10, few_11, mst_12, fal_13, ch_14, my_15, kp_16⟩, q_17, hf⟩ := bnd hf
        refine mGovS (segs := [(W_M cI cC cT h0 h1 h2 h3 h4 h5 h6 h7 h8 h9 h10 hlg tk fx xl xp rmn hdn few mst fal al sv hi sn ch my kp tx rd wy)]) (wcs := [(W_M cI cC cT h0 h1 h2 h3 h4 h5 h6 h7 h8 h9 h10 hlg tk fx xl xp rmn hdn few mst fal al sv hi sn ch my kp tx rd wy)]) (w1s := [(W_M cI cC cT h0 h1 h2 h3 h4 h5 h6 h7 h8 h9 h10 hlg tk fx xl xp rmn hdn_10 few_11 mst_12 fal_13 al sv hi sn ch_14 my_15 kp_16 tx rd wy)]) (w2s := [(W_M cI cC cT h0 h1 h2 h3 h4 h5 h6 h7 h8 h9 h10 hlg tk fx xl xp rmn hdn_10 few_11 mst_12 fal_13 al sv hi sn ch_14 my_15 kp_16 tx rd wy)]) rfl rfl (va_runV (As := [.int p0, .int p1]) (rest := []) ⟨hx, hb, hml, hown, hts⟩ (c_X6_asksWay l D cI cC cT h0 h1 h2 h3 h4 h5 h6 h7 h8 h9 h10 hlg tk fx xl xp rmn hdn few mst fal al sv hi sn ch my kp tx rd wy H.size p0 p1 hdn_10 few_11 mst_12 fal_13 ch_14 my_15 kp_16 q_17) (cwV 2 hts gX6_way_X6_asksWay rfl rfl rfl (by decide +kernel) ⟨Nat.le_of_ble_eq_true rfl, Nat.le_of_ble_eq_true rfl⟩) (mPreVS [(W_M cI cC cT h0 h1 h2 h3 h4 h5 h6 h7 h8 h9 h10 hlg tk fx xl xp rmn hdn few mst fal al sv hi sn ch my kp tx rd wy)] rfl hP hD hK hN [0] rfl (by decide) (va_recv hK (sP hP 0 rfl) (ci := 6) (q0 := 0) rfl rfl)) rfl rfl hl.1 rfl (lv_room (Nat.le_of_ble_eq_true rfl)) dX6_way_34 ⟨Nat.zero_le _, Nat.zero_le _⟩) hP hD hS hA [0] rfl rfl rfl rfl (fun H locs hP hD hS => ?_)
        refine lv_iload_n hx hb dX6_way_37 rfl (lv_at hl 3 rfl) ?_
        refine lv_if_ne (tgt := 58) hx hb dX6_way_38 (by decide) (fun c_18 => ?_) (fun c_18 => ?_)
        · have hf := ite_f hf c_18
          refine lv_iload_n hx hb dX6_way_58 rfl (lv_at hl 3 rfl) ?_
          refine lv_iconst (v := 1) hx hb dX6_way_59 (by decide) ?_
          refine lv_icmp_ne (tgt := 78) hx hb dX6_way_60 (by decide) (fun c_19 => ?_) (fun c_19 => ?_)
          · have hf := ite_f hf c_19
            refine lv_iload_n hx hb dX6_way_78 rfl (lv_at hl 3 rfl) ?_
            refine lv_iconst (v := 2) hx hb dX6_way_79 (by decide) ?_
            refine lv_icmp_ne (tgt := 90) hx hb dX6_way_80 (by decide) (fun c_20 => ?_) (fun c_20 => ?_)
            · have hf := ite_f hf c_20
              refine lv_iload_n hx hb dX6_way_90 rfl (lv_at hl 3 rfl) ?_
              refine lv_iconst (v := 3) hx hb dX6_way_91 (by decide) ?_
              refine lv_icmp_ne (tgt := 102) hx hb dX6_way_92 (by decide) (fun c_21 => ?_) (fun c_21 => ?_)
              · have hf := ite_f hf c_21
                refine lv_aload_n hx hb dX6_way_102 rfl (lv_at hl 0 rfl) ?_
                refine va_get (D := D) (ci := 6) (v := .int few_11) (C := RX6) (T := TX6) (N := 20) hx hb hts hin_X6 hown hK hP 0 rfl rfl 16 (by decide) fl_155 (fun _ h9 => h9) rfl dX6_way_103 ?_
                cases hf
                exact mIret hx hb hr hlocks hP hD hK hS dX6_way_106
              · have hf := ite_t hf c_21
                refine lv_aload_n hx hb dX6_way_95 rfl (lv_at hl 0 rfl) ?_
                refine va_get (D := D) (ci := 6) (v := .int fal_13) (C := RX6) (T := TX6) (N := 20) hx hb hts hin_X6 hown hK hP 0 rfl rfl 18 (by decide) fl_161 (fun _ h9 => h9) rfl dX6_way_96 ?_
                refine lv_goto (tgt := 106) hx hb dX6_way_99 (by decide) ?_
                cases hf
                exact mIret hx hb hr hlocks hP hD hK hS dX6_way_106
            · have hf := ite_t hf c_20
              refine lv_aload_n hx hb dX6_way_83 rfl (lv_at hl 0 rfl) ?_
              refine va_get (D := D) (ci := 6) (v := .int hdn_10) (C := RX6) (T := TX6) (N := 20) hx hb hts hin_X6 hown hK hP 0 rfl rfl 15 (by decide) fl_152 (fun _ h9 => h9) rfl dX6_way_84 ?_
              refine lv_goto (tgt := 106) hx hb dX6_way_87 (by decide) ?_
              cases hf
              exact mIret hx hb hr hlocks hP hD hK hS dX6_way_106
          · have hf := ite_t hf c_19
            refine lv_aload_n hx hb dX6_way_63 rfl (lv_at hl 0 rfl) ?_
            refine va_get (D := D) (ci := 6) (v := .int hdn_10) (C := RX6) (T := TX6) (N := 20) hx hb hts hin_X6 hown hK hP 0 rfl rfl 15 (by decide) fl_152 (fun _ h9 => h9) rfl dX6_way_64 ?_
            refine lv_if_le (tgt := 74) hx hb dX6_way_67 (by decide) (fun c_22 => ?_) (fun c_22 => ?_)
            · have hf := ite_t hf c_22
              refine lv_iconst (v := 0) hx hb dX6_way_74 (by decide) ?_
              refine lv_goto (tgt := 106) hx hb dX6_way_75 (by decide) ?_
              cases hf
              exact mIret hx hb hr hlocks hP hD hK hS dX6_way_106
            · have hf := ite_f hf c_22
              refine lv_iconst (v := 1) hx hb dX6_way_70 (by decide) ?_
              refine lv_goto (tgt := 106) hx hb dX6_way_71 (by decide) ?_
              cases hf
              exact mIret hx hb hr hlocks hP hD hK hS dX6_way_106
        · have hf := ite_t hf c_18
          refine lv_aload_n hx hb dX6_way_41 rfl (lv_at hl 0 rfl) ?_
          refine va_get (D := D) (ci := 6) (v := .int fal_13) (C := RX6) (T := TX6) (N := 20) hx hb hts hin_X6 hown hK hP 0 rfl rfl 18 (by decide) fl_161 (fun _ h9 => h9) rfl dX6_way_42 ?_
          refine lv_bipush (v := -5) hx hb dX6_way_45 (by decide) ?_
          refine lv_icmp_ne (tgt := 54) hx hb dX6_way_47 (by decide) (fun c_23 => ?_) (fun c_23 => ?_)
          · have hf := ite_f hf c_23
            refine lv_iconst (v := 0) hx hb dX6_way_54 (by decide) ?_
            refine lv_goto (tgt := 106) hx hb dX6_way_55 (by decide) ?_
            cases hf
            exact mIret hx hb hr hlocks hP hD hK hS dX6_way_106
          · have hf := ite_t hf c_23
            refine lv_iconst (v := 1) hx hb dX6_way_50 (by decide) ?_
            refine lv_goto (tgt := 106) hx hb dX6_way_51 (by decide) ?_
            cases hf
            exact mIret hx hb hr hlocks hP hD hK hS dX6_way_106
      · have hf := ite_t hf c_9
        refine lv_bipush (v := -2) hx hb dX6_way_28 (by decide) ?_
        cases hf
        exact mIret hx hb hr hlocks hP hD hK hS dX6_way_30
    · have hf := ite_t hf c_6
      refine lv_iconst (v := -1) hx hb dX6_way_14 (by decide) ?_
      cases hf
      exact mIret hx hb hr hlocks hP hD hK hS dX6_way_15
