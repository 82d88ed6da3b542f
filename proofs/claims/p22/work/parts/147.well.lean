abbrev rm_L_isWell : Room := { frames := 7, cells := 1, slots := 20, locals := 151 }
set_option maxHeartbeats 16000000 in
set_option maxRecDepth 100000 in
theorem c_L_isWell (l : Launch) (D : va_G) (cI cC cT : ClassId) (a : Nat → Nat) (u : SSt) (sz : Nat) (out : Int32) (o_u : SSt) (hf : f_L_isWell u = some ((out, o_u))) : Met l yL_isWell wsL_isWell rm_L_isWell (mP D (mTY cI cC cT) [.ref (a 0)] (List.flatten [(FS cI cC cT a u)]) sz) (mQi D (mTY cI cC cT) out (va_A (List.flatten [(FS cI cC cT a u)]) sz) (List.flatten [(FS cI cC cT a o_u)])) 1 20 (va_A (List.flatten [(FS cI cC cT a u)]) sz) := by
  refine mEntN (cc := cL_isWell) (maxL := 17) (ret := (some .boolean)) (own := RL) (Qq := fun A => mQi D (mTY cI cC cT) out A (List.flatten [(FS cI cC cT a o_u)])) (by decide) rfl rfl (Nat.le_of_ble_eq_true rfl) ?_
  intro p e s m below meth c A ls H locs hx hb hr hml hlocks hown hts hN hA hP hK hD hS hl
  have hl : lv_has ls 17 [(0, .ref (a 0))] := hl
  unfold f_L_isWell at hf
  refine lv_aload_n hx hb dL_isWell_0 rfl (lv_at hl 0 rfl) ?_
  refine lv_iconst (v := 3) hx hb dL_isWell_1 (by decide) ?_
  obtain ⟨⟨r_1, u_2⟩, q_3, hf⟩ := bnd hf
  refine mGoiS (segs := [(FS cI cC cT a u)]) (wcs := [(FS cI cC cT a u)]) (w1s := [(FS cI cC cT a u_2)]) (w2s := [(FS cI cC cT a u_2)]) flat1 flat1 (va_runV (As := [.int 3]) (rest := []) ⟨hx, hb, hml, hown, hts⟩ (c_Y5_count l D cI cC cT a u H.size 3 r_1 u_2 q_3) (cwV 1 hts gL_isWell_X5_count rfl rfl rfl (by decide +kernel) ⟨Nat.le_of_ble_eq_true rfl, Nat.le_of_ble_eq_true rfl⟩) (mPreVS [(FS cI cC cT a u)] flat1 hP hD hK hN [0] rfl (by decide) (va_recv hK (sP hP 0 rfl) (ci := 5) (q0 := 0) rfl (FS0 cI cC cT a u))) rfl rfl hl.1 rfl (lv_room (Nat.le_of_ble_eq_true rfl)) dL_isWell_2 ⟨Nat.le_of_ble_eq_true rfl, Nat.le_of_ble_eq_true rfl⟩) hP hD hS hA [0] rfl rfl rfl rfl (fun H locs hP hD hS => ?_)
  refine lv_istore_n (lv' := [(1, .int r_1), (0, .ref (a 0))]) hx hb dL_isWell_5 rfl hl (by decide) rfl (fun ls hl => ?_)
  refine lv_iload_n hx hb dL_isWell_6 rfl (lv_at hl 0 rfl) ?_
  refine lv_sipush (v := 200) hx hb dL_isWell_7 (by decide) ?_
  refine lv_icmp_le (tgt := 15) hx hb dL_isWell_10 (by decide) (fun c_4 => ?_) (fun c_4 => ?_)
  · have hf := ite_t hf c_4
    refine lv_aload_n hx hb dL_isWell_15 rfl (lv_at hl 1 rfl) ?_
    refine lv_iconst (v := 0) hx hb dL_isWell_16 (by decide) ?_
    obtain ⟨⟨r_5, u_6⟩, q_7, hf⟩ := bnd hf
    refine mGoiS (segs := [(FS cI cC cT a u_2)]) (wcs := [(FS cI cC cT a u_2)]) (w1s := [(FS cI cC cT a u_6)]) (w2s := [(FS cI cC cT a u_6)]) flat1 flat1 (va_runV (As := [.int 0]) (rest := []) ⟨hx, hb, hml, hown, hts⟩ (c_Y5_count l D cI cC cT a u_2 H.size 0 r_5 u_6 q_7) (cwV 1 hts gL_isWell_X5_count rfl rfl rfl (by decide +kernel) ⟨Nat.le_of_ble_eq_true rfl, Nat.le_of_ble_eq_true rfl⟩) (mPreVS [(FS cI cC cT a u_2)] flat1 hP hD hK hN [0] rfl (by decide) (va_recv hK (sP hP 0 rfl) (ci := 5) (q0 := 0) rfl (FS0 cI cC cT a u_2))) rfl rfl hl.1 rfl (lv_room (Nat.le_of_ble_eq_true rfl)) dL_isWell_17 ⟨Nat.le_of_ble_eq_true rfl, Nat.le_of_ble_eq_true rfl⟩) hP hD hS hA [0] rfl rfl rfl rfl (fun H locs hP hD hS => ?_)
    refine lv_istore_n (lv' := [(2, .int r_5), (1, .int r_1), (0, .ref (a 0))]) hx hb dL_isWell_20 rfl hl (by decide) rfl (fun ls hl => ?_)
    refine lv_bipush (v := 20) hx hb dL_isWell_21 (by decide) ?_
    refine va_newa (atype := .int) hx hb (hts (.arrayClass .int) (by decide +kernel)) (ty := .int) rfl hK hP hD hS hA (n := 20) (N' := 20) (a0 := (20, .inl (fun _ => 0))) (fun _ => rfl) (by decide) (by decide) (by decide) (Nat.le_of_ble_eq_true rfl) (Nat.le_of_ble_eq_true rfl) dL_isWell_23 (fun g cA H hK hP hD hS => ?_)
    have hcA : cA = cI := mRA hK 0 3 rfl rfl
    have hK : va_K D vwCl (mTY cI cC cT) s := hK.sub [0, 1, 2] rfl
    rw [hcA, seg_push] at hP hD
    have hP : va_P D vwCl (List.flatten [(FS cI cC cT a u_6), (W_A cI cC cT g 20 ((fun _ => 0)))]) H := hP
    have hD : va_D A (List.flatten [(FS cI cC cT a u_6), (W_A cI cC cT g 20 ((fun _ => 0)))]) := hD
    refine lv_astore_n (lv' := [(3, .ref g), (2, .int r_5), (1, .int r_1), (0, .ref (a 0))]) hx hb dL_isWell_25 rfl hl (by decide) rfl (fun ls hl => ?_)
    refine lv_iconst (v := 1) hx hb dL_isWell_26 (by decide) ?_
    refine lv_istore (lv' := [(4, .int 1), (3, .ref g), (2, .int r_5), (1, .int r_1), (0, .ref (a 0))]) hx hb dL_isWell_27 hl (by decide) rfl (fun ls hl => ?_)
    refine lv_iconst (v := 0) hx hb dL_isWell_29 (by decide) ?_
    refine lv_istore (lv' := [(5, .int 0), (4, .int 1), (3, .ref g), (2, .int r_5), (1, .int r_1), (0, .ref (a 0))]) hx hb dL_isWell_30 hl (by decide) rfl (fun ls hl => ?_)
    refine lv_iconst (v := 0) hx hb dL_isWell_32 (by decide) ?_
    refine lv_istore (lv' := [(6, .int 0), (5, .int 0), (4, .int 1), (3, .ref g), (2, .int r_5), (1, .int r_1), (0, .ref (a 0))]) hx hb dL_isWell_33 hl (by decide) rfl (fun ls hl => ?_)
    refine lv_iconst (v := 0) hx hb dL_isWell_35 (by decide) ?_
    refine lv_istore (lv' := [(7, .int 0), (6, .int 0), (5, .int 0), (4, .int 1), (3, .ref g), (2, .int r_5), (1, .int r_1), (0, .ref (a 0))]) hx hb dL_isWell_36 hl (by decide) rfl (fun ls hl => ?_)
    refine lv_aload_n hx hb dL_isWell_38 rfl (lv_at hl 7 rfl) ?_
    refine lv_iconst (v := 0) hx hb dL_isWell_39 (by decide) ?_
    obtain ⟨⟨r_9, u_10⟩, q_11, hf⟩ := bnd hf
    refine mGoiS (segs := [(FS cI cC cT a u_6), (W_A cI cC cT g 20 ((fun _ => 0)))]) (wcs := [(FS cI cC cT a u_6)]) (w1s := [(FS cI cC cT a u_10)]) (w2s := [(FS cI cC cT a u_10), (W_A cI cC cT g 20 ((fun _ => 0)))]) flat1 flat1 (va_runV (As := [.int 0]) (rest := []) ⟨hx, hb, hml, hown, hts⟩ (c_Y5_sum l D cI cC cT a u_6 H.size 0 r_9 u_10 q_11) (cwV 1 hts gL_isWell_X5_sum rfl rfl rfl (by decide +kernel) ⟨Nat.le_of_ble_eq_true rfl, Nat.le_of_ble_eq_true rfl⟩) (mPreVS [(FS cI cC cT a u_6)] flat1 hP hD hK hN [0] rfl (by decide) (va_recv hK (sP hP 0 rfl) (ci := 5) (q0 := 0) rfl (FS0 cI cC cT a u_6))) rfl rfl hl.1 rfl (lv_room (Nat.le_of_ble_eq_true rfl)) dL_isWell_40 ⟨Nat.le_of_ble_eq_true rfl, Nat.le_of_ble_eq_true rfl⟩) hP hD hS hA [0] rfl rfl rfl rfl (fun H locs hP hD hS => ?_)
    refine lv_istore (lv' := [(8, .int r_9), (7, .int 0), (6, .int 0), (5, .int 0), (4, .int 1), (3, .ref g), (2, .int r_5), (1, .int r_1), (0, .ref (a 0))]) hx hb dL_isWell_43 hl (by decide) rfl (fun ls hl => ?_)
    refine lv_aload_n hx hb dL_isWell_45 rfl (lv_at hl 8 rfl) ?_
    refine lv_iconst (v := 1) hx hb dL_isWell_46 (by decide) ?_
    obtain ⟨⟨r_12, u_13⟩, q_14, hf⟩ := bnd hf
    refine mGoiS (segs := [(FS cI cC cT a u_10), (W_A cI cC cT g 20 ((fun _ => 0)))]) (wcs := [(FS cI cC cT a u_10)]) (w1s := [(FS cI cC cT a u_13)]) (w2s := [(FS cI cC cT a u_13), (W_A cI cC cT g 20 ((fun _ => 0)))]) flat1 flat1 (va_runV (As := [.int 1]) (rest := []) ⟨hx, hb, hml, hown, hts⟩ (c_Y5_sum l D cI cC cT a u_10 H.size 1 r_12 u_13 q_14) (cwV 1 hts gL_isWell_X5_sum rfl rfl rfl (by decide +kernel) ⟨Nat.le_of_ble_eq_true rfl, Nat.le_of_ble_eq_true rfl⟩) (mPreVS [(FS cI cC cT a u_10)] flat1 hP hD hK hN [0] rfl (by decide) (va_recv hK (sP hP 0 rfl) (ci := 5) (q0 := 0) rfl (FS0 cI cC cT a u_10))) rfl rfl hl.1 rfl (lv_room (Nat.le_of_ble_eq_true rfl)) dL_isWell_47 ⟨Nat.le_of_ble_eq_true rfl, Nat.le_of_ble_eq_true rfl⟩) hP hD hS hA [0] rfl rfl rfl rfl (fun H locs hP hD hS => ?_)
    refine lv_istore (lv' := [(9, .int r_12), (8, .int r_9), (7, .int 0), (6, .int 0), (5, .int 0), (4, .int 1), (3, .ref g), (2, .int r_5), (1, .int r_1), (0, .ref (a 0))]) hx hb dL_isWell_50 hl (by decide) rfl (fun ls hl => ?_)
    refine lv_aload_n hx hb dL_isWell_52 rfl (lv_at hl 9 rfl) ?_
    refine lv_iconst (v := 2) hx hb dL_isWell_53 (by decide) ?_
    obtain ⟨⟨r_15, u_16⟩, q_17, hf⟩ := bnd hf
    refine mGoiS (segs := [(FS cI cC cT a u_13), (W_A cI cC cT g 20 ((fun _ => 0)))]) (wcs := [(FS cI cC cT a u_13)]) (w1s := [(FS cI cC cT a u_16)]) (w2s := [(FS cI cC cT a u_16), (W_A cI cC cT g 20 ((fun _ => 0)))]) flat1 flat1 (va_runV (As := [.int 2]) (rest := []) ⟨hx, hb, hml, hown, hts⟩ (c_Y5_sum l D cI cC cT a u_13 H.size 2 r_15 u_16 q_17) (cwV 1 hts gL_isWell_X5_sum rfl rfl rfl (by decide +kernel) ⟨Nat.le_of_ble_eq_true rfl, Nat.le_of_ble_eq_true rfl⟩) (mPreVS [(FS cI cC cT a u_13)] flat1 hP hD hK hN [0] rfl (by decide) (va_recv hK (sP hP 0 rfl) (ci := 5) (q0 := 0) rfl (FS0 cI cC cT a u_13))) rfl rfl hl.1 rfl (lv_room (Nat.le_of_ble_eq_true rfl)) dL_isWell_54 ⟨Nat.le_of_ble_eq_true rfl, Nat.le_of_ble_eq_true rfl⟩) hP hD hS hA [0] rfl rfl rfl rfl (fun H locs hP hD hS => ?_)
    refine lv_istore (lv' := [(10, .int r_15), (9, .int r_12), (8, .int r_9), (7, .int 0), (6, .int 0), (5, .int 0), (4, .int 1), (3, .ref g), (2, .int r_5), (1, .int r_1), (0, .ref (a 0))]) hx hb dL_isWell_57 hl (by decide) rfl (fun ls hl => ?_)
    refine lv_aload_n hx hb dL_isWell_59 rfl (lv_at hl 10 rfl) ?_
    refine lv_iconst (v := 3) hx hb dL_isWell_60 (by decide) ?_
    obtain ⟨⟨r_18, u_19⟩, q_20, hf⟩ := bnd hf
    refine mGoiS (segs := [(FS cI cC cT a u_16), (W_A cI cC cT g 20 ((fun _ => 0)))]) (wcs := [(FS cI cC cT a u_16)]) (w1s := [(FS cI cC cT a u_19)]) (w2s := [(FS cI cC cT a u_19), (W_A cI cC cT g 20 ((fun _ => 0)))]) flat1 flat1 (va_runV (As := [.int 3]) (rest := []) ⟨hx, hb, hml, hown, hts⟩ (c_Y5_sum l D cI cC cT a u_16 H.size 3 r_18 u_19 q_20) (cwV 1 hts gL_isWell_X5_sum rfl rfl rfl (by decide +kernel) ⟨Nat.le_of_ble_eq_true rfl, Nat.le_of_ble_eq_true rfl⟩) (mPreVS [(FS cI cC cT a u_16)] flat1 hP hD hK hN [0] rfl (by decide) (va_recv hK (sP hP 0 rfl) (ci := 5) (q0 := 0) rfl (FS0 cI cC cT a u_16))) rfl rfl hl.1 rfl (lv_room (Nat.le_of_ble_eq_true rfl)) dL_isWell_61 ⟨Nat.le_of_ble_eq_true rfl, Nat.le_of_ble_eq_true rfl⟩) hP hD hS hA [0] rfl rfl rfl rfl (fun H locs hP hD hS => ?_)
    refine lv_istore (lv' := [(11, .int r_18), (10, .int r_15), (9, .int r_12), (8, .int r_9), (7, .int 0), (6, .int 0), (5, .int 0), (4, .int 1), (3, .ref g), (2, .int r_5), (1, .int r_1), (0, .ref (a 0))]) hx hb dL_isWell_64 hl (by decide) rfl (fun ls hl => ?_)
    refine lv_iconst (v := 1) hx hb dL_isWell_66 (by decide) ?_
    refine lv_istore (lv' := [(12, .int 1), (11, .int r_18), (10, .int r_15), (9, .int r_12), (8, .int r_9), (7, .int 0), (6, .int 0), (5, .int 0), (4, .int 1), (3, .ref g), (2, .int r_5), (1, .int r_1), (0, .ref (a 0))]) hx hb dL_isWell_67 hl (by decide) rfl (fun ls hl => ?_)
    refine lv_iconst (v := 0) hx hb dL_isWell_69 (by decide) ?_
    refine lv_istore (lv' := [(13, .int 0), (12, .int 1), (11, .int r_18), (10, .int r_15), (9, .int r_12), (8, .int r_9), (7, .int 0), (6, .int 0), (5, .int 0), (4, .int 1), (3, .ref g), (2, .int r_5), (1, .int r_1), (0, .ref (a 0))]) hx hb dL_isWell_70 hl (by decide) rfl (fun ls hl => ?_)
    obtain ⟨⟨x_21, u_22, hd_23⟩, q_25, hf⟩ := bnd hf
    have K_24 : ∀ (H : Heap) (locs : List Loc), va_P D vwCl (List.flatten [(FS cI cC cT a u_22), (W_A cI cC cT g 20 hd_23)]) H → va_D A (List.flatten [(FS cI cC cT a u_22), (W_A cI cC cT g 20 hd_23)]) → va_S A s.heap H locs → ∀ (ls : Array Slot), lv_has ls 17 [(0, .ref (a 0)), (1, .int r_1), (2, .int r_5), (3, .ref g), (4, .int 1), (5, .int 0), (6, .int 0), (7, .int 0), (12, .int x_21)] → W p l e rm_L_isWell s m ([.ref (a 0)] : List Value).toArray below meth c H locs (0 + 1) (0 + 20) (MQ below (mQi D (mTY cI cC cT) out A (List.flatten [(FS cI cC cT a o_u)])) ([.ref (a 0)] : List Value).toArray s 1 20 A) (F0 m 329 ls []) := by
      intro H locs hP hD hS ls hl
      refine lv_iconst (v := 0) hx hb dL_isWell_329 (by decide) ?_
      refine lv_istore (lv' := [(13, .int 0), (0, .ref (a 0)), (1, .int r_1), (2, .int r_5), (3, .ref g), (4, .int 1), (5, .int 0), (6, .int 0), (7, .int 0), (12, .int x_21)]) hx hb dL_isWell_330 hl (by decide) rfl (fun ls hl => ?_)
      obtain ⟨⟨x_129, x_130, u_131⟩, q_133, hf⟩ := bnd hf
      have K_132 : ∀ (H : Heap) (locs : List Loc), va_P D vwCl (List.flatten [(FS cI cC cT a u_131), (W_A cI cC cT g 20 hd_23)]) H → va_D A (List.flatten [(FS cI cC cT a u_131), (W_A cI cC cT g 20 hd_23)]) → va_S A s.heap H locs → ∀ (ls : Array Slot), lv_has ls 17 [(0, .ref (a 0)), (1, .int r_1), (4, .int 1), (5, .int 0), (6, .int 0), (7, .int x_129), (12, .int x_130)] → W p l e rm_L_isWell s m ([.ref (a 0)] : List Value).toArray below meth c H locs (0 + 1) (0 + 20) (MQ below (mQi D (mTY cI cC cT) out A (List.flatten [(FS cI cC cT a o_u)])) ([.ref (a 0)] : List Value).toArray s 1 20 A) (F0 m 436 ls []) := by
        intro H locs hP hD hS ls hl
        refine lv_iconst (v := 0) hx hb dL_isWell_436 (by decide) ?_
        refine lv_istore (lv' := [(13, .int 0), (0, .ref (a 0)), (1, .int r_1), (4, .int 1), (5, .int 0), (6, .int 0), (7, .int x_129), (12, .int x_130)]) hx hb dL_isWell_437 hl (by decide) rfl (fun ls hl => ?_)
        obtain ⟨⟨x_178, x_179, x_180, x_181, u_182⟩, q_184, hf⟩ := bnd hf
        have K_183 : ∀ (H : Heap) (locs : List Loc), va_P D vwCl (List.flatten [(FS cI cC cT a u_182), (W_A cI cC cT g 20 hd_23)]) H → va_D A (List.flatten [(FS cI cC cT a u_182), (W_A cI cC cT g 20 hd_23)]) → va_S A s.heap H locs → ∀ (ls : Array Slot), lv_has ls 17 [(0, .ref (a 0)), (1, .int r_1), (4, .int x_178), (5, .int x_179), (6, .int x_180), (7, .int x_129), (12, .int x_181)] → W p l e rm_L_isWell s m ([.ref (a 0)] : List Value).toArray below meth c H locs (0 + 1) (0 + 20) (MQ below (mQi D (mTY cI cC cT) out A (List.flatten [(FS cI cC cT a o_u)])) ([.ref (a 0)] : List Value).toArray s 1 20 A) (F0 m 591 ls []) := by
          intro H locs hP hD hS ls hl
          refine lv_iload hx hb dL_isWell_591 (lv_at hl 6 rfl) ?_
          refine lv_if_eq (tgt := 676) hx hb dL_isWell_593 (by decide) (fun c_243 => ?_) (fun c_243 => ?_)
          · have hf := ite_t hf c_243
            refine lv_iconst (v := 0) hx hb dL_isWell_676 (by decide) ?_
            have hP := seg_dropP hP
            have hD := seg_dropD hD
            cases hf
            exact mZret hx hb hr rfl hlocks hP hD hK hS dL_isWell_677
          · have hf := ite_f hf c_243
            refine lv_iload hx hb dL_isWell_596 (lv_at hl 2 rfl) ?_
            refine lv_iload_n hx hb dL_isWell_598 rfl (lv_at hl 1 rfl) ?_
            refine lv_icmp_ne (tgt := 676) hx hb dL_isWell_599 (by decide) (fun c_244 => ?_) (fun c_244 => ?_)
            · have hf := ite_f hf c_244
              refine lv_iconst (v := 0) hx hb dL_isWell_676 (by decide) ?_
              have hP := seg_dropP hP
              have hD := seg_dropD hD
              cases hf
              exact mZret hx hb hr rfl hlocks hP hD hK hS dL_isWell_677
            · have hf := ite_t hf c_244
              refine lv_iload hx hb dL_isWell_602 (lv_at hl 3 rfl) ?_
              refine lv_aload_n hx hb dL_isWell_604 rfl (lv_at hl 0 rfl) ?_
              refine lv_iconst (v := 1) hx hb dL_isWell_605 (by decide) ?_
              obtain ⟨⟨r_245, u_246⟩, q_247, hf⟩ := bnd hf
              refine mGoiS (segs := [(FS cI cC cT a u_182), (W_A cI cC cT g 20 hd_23)]) (wcs := [(FS cI cC cT a u_182)]) (w1s := [(FS cI cC cT a u_246)]) (w2s := [(FS cI cC cT a u_246), (W_A cI cC cT g 20 hd_23)]) flat1 flat1 (va_runV (As := [.int 1]) (rest := [.int x_179]) ⟨hx, hb, hml, hown, hts⟩ (c_Y5_count l D cI cC cT a u_182 H.size 1 r_245 u_246 q_247) (cwV 1 hts gL_isWell_X5_count rfl rfl rfl (by decide +kernel) ⟨Nat.le_of_ble_eq_true rfl, Nat.le_of_ble_eq_true rfl⟩) (mPreVS [(FS cI cC cT a u_182)] flat1 hP hD hK hN [0] rfl (by decide) (va_recv hK (sP hP 0 rfl) (ci := 5) (q0 := 0) rfl (FS0 cI cC cT a u_182))) rfl rfl hl.1 rfl (lv_room (Nat.le_of_ble_eq_true rfl)) dL_isWell_606 ⟨Nat.le_of_ble_eq_true rfl, Nat.le_of_ble_eq_true rfl⟩) hP hD hS hA [0] rfl rfl rfl rfl (fun H locs hP hD hS => ?_)
              refine lv_icmp_ne (tgt := 676) hx hb dL_isWell_609 (by decide) (fun c_248 => ?_) (fun c_248 => ?_)
              · have hf := ite_f hf c_248
                refine lv_iconst (v := 0) hx hb dL_isWell_676 (by decide) ?_
                have hP := seg_dropP hP
                have hD := seg_dropD hD
                cases hf
                exact mZret hx hb hr rfl hlocks hP hD hK hS dL_isWell_677
              · have hf := ite_t hf c_248
                refine lv_iload hx hb dL_isWell_612 (lv_at hl 4 rfl) ?_
                refine lv_aload_n hx hb dL_isWell_614 rfl (lv_at hl 0 rfl) ?_
                refine lv_iconst (v := 2) hx hb dL_isWell_615 (by decide) ?_
                obtain ⟨⟨r_249, u_250⟩, q_251, hf⟩ := bnd hf
                refine mGoiS (segs := [(FS cI cC cT a u_246), (W_A cI cC cT g 20 hd_23)]) (wcs := [(FS cI cC cT a u_246)]) (w1s := [(FS cI cC cT a u_250)]) (w2s := [(FS cI cC cT a u_250), (W_A cI cC cT g 20 hd_23)]) flat1 flat1 (va_runV (As := [.int 2]) (rest := [.int x_180]) ⟨hx, hb, hml, hown, hts⟩ (c_Y5_count l D cI cC cT a u_246 H.size 2 r_249 u_250 q_251) (cwV 1 hts gL_isWell_X5_count rfl rfl rfl (by decide +kernel) ⟨Nat.le_of_ble_eq_true rfl, Nat.le_of_ble_eq_true rfl⟩) (mPreVS [(FS cI cC cT a u_246)] flat1 hP hD hK hN [0] rfl (by decide) (va_recv hK (sP hP 0 rfl) (ci := 5) (q0 := 0) rfl (FS0 cI cC cT a u_246))) rfl rfl hl.1 rfl (lv_room (Nat.le_of_ble_eq_true rfl)) dL_isWell_616 ⟨Nat.le_of_ble_eq_true rfl, Nat.le_of_ble_eq_true rfl⟩) hP hD hS hA [0] rfl rfl rfl rfl (fun H locs hP hD hS => ?_)
                refine lv_icmp_ne (tgt := 676) hx hb dL_isWell_619 (by decide) (fun c_252 => ?_) (fun c_252 => ?_)
                · have hf := ite_f hf c_252
                  refine lv_iconst (v := 0) hx hb dL_isWell_676 (by decide) ?_
                  have hP := seg_dropP hP
                  have hD := seg_dropD hD
                  cases hf
                  exact mZret hx hb hr rfl hlocks hP hD hK hS dL_isWell_677
                · have hf := ite_t hf c_252
                  refine lv_iload hx hb dL_isWell_622 (lv_at hl 5 rfl) ?_
                  refine lv_aload_n hx hb dL_isWell_624 rfl (lv_at hl 0 rfl) ?_
                  refine lv_iconst (v := 4) hx hb dL_isWell_625 (by decide) ?_
                  obtain ⟨⟨r_253, u_254⟩, q_255, hf⟩ := bnd hf
                  refine mGoiS (segs := [(FS cI cC cT a u_250), (W_A cI cC cT g 20 hd_23)]) (wcs := [(FS cI cC cT a u_250)]) (w1s := [(FS cI cC cT a u_254)]) (w2s := [(FS cI cC cT a u_254), (W_A cI cC cT g 20 hd_23)]) flat1 flat1 (va_runV (As := [.int 4]) (rest := [.int x_129]) ⟨hx, hb, hml, hown, hts⟩ (c_Y5_count l D cI cC cT a u_250 H.size 4 r_253 u_254 q_255) (cwV 1 hts gL_isWell_X5_count rfl rfl rfl (by decide +kernel) ⟨Nat.le_of_ble_eq_true rfl, Nat.le_of_ble_eq_true rfl⟩) (mPreVS [(FS cI cC cT a u_250)] flat1 hP hD hK hN [0] rfl (by decide) (va_recv hK (sP hP 0 rfl) (ci := 5) (q0 := 0) rfl (FS0 cI cC cT a u_250))) rfl rfl hl.1 rfl (lv_room (Nat.le_of_ble_eq_true rfl)) dL_isWell_626 ⟨Nat.le_of_ble_eq_true rfl, Nat.le_of_ble_eq_true rfl⟩) hP hD hS hA [0] rfl rfl rfl rfl (fun H locs hP hD hS => ?_)
                  refine lv_icmp_ne (tgt := 676) hx hb dL_isWell_629 (by decide) (fun c_256 => ?_) (fun c_256 => ?_)
                  · have hf := ite_f hf c_256
                    refine lv_iconst (v := 0) hx hb dL_isWell_676 (by decide) ?_
                    have hP := seg_dropP hP
                    have hD := seg_dropD hD
                    cases hf
                    exact mZret hx hb hr rfl hlocks hP hD hK hS dL_isWell_677
                  · have hf := ite_t hf c_256
                    refine lv_aload_n hx hb dL_isWell_632 rfl (lv_at hl 0 rfl) ?_
                    refine lv_iload_n hx hb dL_isWell_633 rfl (lv_at hl 1 rfl) ?_
                    refine lv_iconst (v := 0) hx hb dL_isWell_634 (by decide) ?_
                    obtain ⟨⟨r_257, u_258⟩, q_259, hf⟩ := bnd hf
                    refine mGoiS (segs := [(FS cI cC cT a u_254), (W_A cI cC cT g 20 hd_23)]) (wcs := [(FS cI cC cT a u_254)]) (w1s := [(FS cI cC cT a u_258)]) (w2s := [(FS cI cC cT a u_258), (W_A cI cC cT g 20 hd_23)]) flat1 flat1 (va_runV (As := [.int r_1, .int 0]) (rest := []) ⟨hx, hb, hml, hown, hts⟩ (c_Y5_kept l D cI cC cT a u_254 H.size r_1 0 r_257 u_258 q_259) (cwV 2 hts gL_isWell_X5_kept rfl rfl rfl (by decide +kernel) ⟨Nat.le_of_ble_eq_true rfl, Nat.le_of_ble_eq_true rfl⟩) (mPreVS [(FS cI cC cT a u_254)] flat1 hP hD hK hN [0] rfl (by decide) (va_recv hK (sP hP 0 rfl) (ci := 5) (q0 := 0) rfl (FS0 cI cC cT a u_254))) rfl rfl hl.1 rfl (lv_room (Nat.le_of_ble_eq_true rfl)) dL_isWell_635 ⟨Nat.le_of_ble_eq_true rfl, Nat.le_of_ble_eq_true rfl⟩) hP hD hS hA [0] rfl rfl rfl rfl (fun H locs hP hD hS => ?_)
                    refine lv_bipush (v := -2) hx hb dL_isWell_638 (by decide) ?_
                    refine lv_icmp_ne (tgt := 676) hx hb dL_isWell_640 (by decide) (fun c_260 => ?_) (fun c_260 => ?_)
                    · have hf := ite_f hf c_260
                      refine lv_iconst (v := 0) hx hb dL_isWell_676 (by decide) ?_
                      have hP := seg_dropP hP
                      have hD := seg_dropD hD
                      cases hf
                      exact mZret hx hb hr rfl hlocks hP hD hK hS dL_isWell_677
                    · have hf := ite_t hf c_260
                      refine lv_aload_n hx hb dL_isWell_643 rfl (lv_at hl 0 rfl) ?_
                      refine lv_iconst (v := 5) hx hb dL_isWell_644 (by decide) ?_
                      obtain ⟨⟨r_261, u_262⟩, q_263, hf⟩ := bnd hf
                      refine mGoiS (segs := [(FS cI cC cT a u_258), (W_A cI cC cT g 20 hd_23)]) (wcs := [(FS cI cC cT a u_258)]) (w1s := [(FS cI cC cT a u_262)]) (w2s := [(FS cI cC cT a u_262), (W_A cI cC cT g 20 hd_23)]) flat1 flat1 (va_runV (As := [.int 5]) (rest := []) ⟨hx, hb, hml, hown, hts⟩ (c_Y5_count l D cI cC cT a u_258 H.size 5 r_261 u_262 q_263) (cwV 1 hts gL_isWell_X5_count rfl rfl rfl (by decide +kernel) ⟨Nat.le_of_ble_eq_true rfl, Nat.le_of_ble_eq_true rfl⟩) (mPreVS [(FS cI cC cT a u_258)] flat1 hP hD hK hN [0] rfl (by decide) (va_recv hK (sP hP 0 rfl) (ci := 5) (q0 := 0) rfl (FS0 cI cC cT a u_258))) rfl rfl hl.1 rfl (lv_room (Nat.le_of_ble_eq_true rfl)) dL_isWell_645 ⟨Nat.le_of_ble_eq_true rfl, Nat.le_of_ble_eq_true rfl⟩) hP hD hS hA [0] rfl rfl rfl rfl (fun H locs hP hD hS => ?_)
                      refine lv_aload_n hx hb dL_isWell_648 rfl (lv_at hl 0 rfl) ?_
                      refine lv_bipush (v := 6) hx hb dL_isWell_649 (by decide) ?_
                      obtain ⟨⟨r_264, u_265⟩, q_266, hf⟩ := bnd hf
                      refine mGoiS (segs := [(FS cI cC cT a u_262), (W_A cI cC cT g 20 hd_23)]) (wcs := [(FS cI cC cT a u_262)]) (w1s := [(FS cI cC cT a u_265)]) (w2s := [(FS cI cC cT a u_265), (W_A cI cC cT g 20 hd_23)]) flat1 flat1 (va_runV (As := [.int 6]) (rest := [.int r_261]) ⟨hx, hb, hml, hown, hts⟩ (c_Y5_count l D cI cC cT a u_262 H.size 6 r_264 u_265 q_266) (cwV 1 hts gL_isWell_X5_count rfl rfl rfl (by decide +kernel) ⟨Nat.le_of_ble_eq_true rfl, Nat.le_of_ble_eq_true rfl⟩) (mPreVS [(FS cI cC cT a u_262)] flat1 hP hD hK hN [0] rfl (by decide) (va_recv hK (sP hP 0 rfl) (ci := 5) (q0 := 0) rfl (FS0 cI cC cT a u_262))) rfl rfl hl.1 rfl (lv_room (Nat.le_of_ble_eq_true rfl)) dL_isWell_651 ⟨Nat.le_of_ble_eq_true rfl, Nat.le_of_ble_eq_true rfl⟩) hP hD hS hA [0] rfl rfl rfl rfl (fun H locs hP hD hS => ?_)
                      refine lv_icmp_gt (tgt := 676) hx hb dL_isWell_654 (by decide) (fun c_267 => ?_) (fun c_267 => ?_)
                      · have hf := ite_t hf c_267
                        refine lv_iconst (v := 0) hx hb dL_isWell_676 (by decide) ?_
                        have hP := seg_dropP hP
                        have hD := seg_dropD hD
                        cases hf
                        exact mZret hx hb hr rfl hlocks hP hD hK hS dL_isWell_677
                      · have hf := ite_f hf c_267
                        refine lv_aload_n hx hb dL_isWell_657 rfl (lv_at hl 0 rfl) ?_
                        refine lv_bipush (v := 7) hx hb dL_isWell_658 (by decide) ?_
                        obtain ⟨⟨r_268, u_269⟩, q_270, hf⟩ := bnd hf
                        refine mGoiS (segs := [(FS cI cC cT a u_265), (W_A cI cC cT g 20 hd_23)]) (wcs := [(FS cI cC cT a u_265)]) (w1s := [(FS cI cC cT a u_269)]) (w2s := [(FS cI cC cT a u_269), (W_A cI cC cT g 20 hd_23)]) flat1 flat1 (va_runV (As := [.int 7]) (rest := []) ⟨hx, hb, hml, hown, hts⟩ (c_Y5_count l D cI cC cT a u_265 H.size 7 r_268 u_269 q_270) (cwV 1 hts gL_isWell_X5_count rfl rfl rfl (by decide +kernel) ⟨Nat.le_of_ble_eq_true rfl, Nat.le_of_ble_eq_true rfl⟩) (mPreVS [(FS cI cC cT a u_265)] flat1 hP hD hK hN [0] rfl (by decide) (va_recv hK (sP hP 0 rfl) (ci := 5) (q0 := 0) rfl (FS0 cI cC cT a u_265))) rfl rfl hl.1 rfl (lv_room (Nat.le_of_ble_eq_true rfl)) dL_isWell_660 ⟨Nat.le_of_ble_eq_true rfl, Nat.le_of_ble_eq_true rfl⟩) hP hD hS hA [0] rfl rfl rfl rfl (fun H locs hP hD hS => ?_)
                        refine lv_aload_n hx hb dL_isWell_663 rfl (lv_at hl 0 rfl) ?_
                        refine lv_bipush (v := 8) hx hb dL_isWell_664 (by decide) ?_
                        obtain ⟨⟨r_271, u_272⟩, q_273, hf⟩ := bnd hf
                        refine mGoiS (segs := [(FS cI cC cT a u_269), (W_A cI cC cT g 20 hd_23)]) (wcs := [(FS cI cC cT a u_269)]) (w1s := [(FS cI cC cT a u_272)]) (w2s := [(FS cI cC cT a u_272), (W_A cI cC cT g 20 hd_23)]) flat1 flat1 (va_runV (As := [.int 8]) (rest := [.int r_268]) ⟨hx, hb, hml, hown, hts⟩ (c_Y5_count l D cI cC cT a u_269 H.size 8 r_271 u_272 q_273) (cwV 1 hts gL_isWell_X5_count rfl rfl rfl (by decide +kernel) ⟨Nat.le_of_ble_eq_true rfl, Nat.le_of_ble_eq_true rfl⟩) (mPreVS [(FS cI cC cT a u_269)] flat1 hP hD hK hN [0] rfl (by decide) (va_recv hK (sP hP 0 rfl) (ci := 5) (q0 := 0) rfl (FS0 cI cC cT a u_269))) rfl rfl hl.1 rfl (lv_room (Nat.le_of_ble_eq_true rfl)) dL_isWell_666 ⟨Nat.le_of_ble_eq_true rfl, Nat.le_of_ble_eq_true rfl⟩) hP hD hS hA [0] rfl rfl rfl rfl (fun H locs hP hD hS => ?_)
                        refine lv_icmp_gt (tgt := 676) hx hb dL_isWell_669 (by decide) (fun c_274 => ?_) (fun c_274 => ?_)
                        · have hf := ite_t hf c_274
                          refine lv_iconst (v := 0) hx hb dL_isWell_676 (by decide) ?_
                          have hP := seg_dropP hP
                          have hD := seg_dropD hD
                          cases hf
                          exact mZret hx hb hr rfl hlocks hP hD hK hS dL_isWell_677
                        · have hf := ite_f hf c_274
                          refine lv_iconst (v := 1) hx hb dL_isWell_672 (by decide) ?_
                          refine lv_goto (tgt := 677) hx hb dL_isWell_673 (by decide) ?_
                          have hP := seg_dropP hP
                          have hD := seg_dropD hD
                          cases hf
                          exact mZret hx hb hr rfl hlocks hP hD hK hS dL_isWell_677
        have hf := q_184
        have LP_191 : ∀ (n_191 : Nat) (v4_185 : Int32) (v5_186 : Int32) (v6_187 : Int32) (v12_188 : Int32) (v13_189 : Int32) (u_190 : SSt), iter n_191 (b_L_isWell_4) ((v4_185, v5_186, v6_187, v12_188, v13_189, u_190)) = some ((x_178, x_179, x_180, x_181, u_182)) → ∀ (H : Heap) (locs : List Loc), va_P D vwCl (List.flatten [(FS cI cC cT a u_190), (W_A cI cC cT g 20 hd_23)]) H → va_D A (List.flatten [(FS cI cC cT a u_190), (W_A cI cC cT g 20 hd_23)]) → va_S A s.heap H locs → ∀ (ls : Array Slot), lv_has ls 17 [(0, .ref (a 0)), (1, .int r_1), (4, .int v4_185), (5, .int v5_186), (6, .int v6_187), (7, .int x_129), (12, .int v12_188), (13, .int v13_189)] → W p l e rm_L_isWell s m ([.ref (a 0)] : List Value).toArray below meth c H locs (0 + 1) (0 + 20) (MQ below (mQi D (mTY cI cC cT) out A (List.flatten [(FS cI cC cT a o_u)])) ([.ref (a 0)] : List Value).toArray s 1 20 A) (F0 m 439 ls []) := by
          intro n_191
          induction n_191 with
          | zero => intro v4_185 v5_186 v6_187 v12_188 v13_189 u_190 hf; exact (iter_zero hf).elim
          | succ n_191 ih_191 =>
            intro v4_185 v5_186 v6_187 v12_188 v13_189 u_190 hf H locs hP hD hS ls hl
            obtain ⟨o_191, hf, ho_191⟩ := iter_succ hf
            dsimp only [b_L_isWell_4] at hf
            refine lv_iload hx hb dL_isWell_439 (lv_at hl 7 rfl) ?_
            refine lv_bipush (v := 10) hx hb dL_isWell_441 (by decide) ?_
            refine lv_icmp_ge (tgt := 591) hx hb dL_isWell_443 (by decide) (fun c_192 => ?_) (fun c_192 => ?_)
            · have hf := ite_t hf c_192
              cases hf
              have hf := ho_191.2 _ rfl
              cases hf
              exact K_183 _ _ hP hD hS _ (lv_sub hl [0, 1, 2, 3, 4, 5, 6] rfl)
            · have hf := ite_f hf c_192
              refine lv_aload_n hx hb dL_isWell_446 rfl (lv_at hl 0 rfl) ?_
              refine lv_iload hx hb dL_isWell_447 (lv_at hl 7 rfl) ?_
              refine lv_iconst (v := 1) hx hb dL_isWell_449 (by decide) ?_
              obtain ⟨⟨r_193, u_194⟩, q_195, hf⟩ := bnd hf
              refine mGoiS (segs := [(FS cI cC cT a u_190), (W_A cI cC cT g 20 hd_23)]) (wcs := [(FS cI cC cT a u_190)]) (w1s := [(FS cI cC cT a u_194)]) (w2s := [(FS cI cC cT a u_194), (W_A cI cC cT g 20 hd_23)]) flat1 flat1 (va_runV (As := [.int v13_189, .int 1]) (rest := []) ⟨hx, hb, hml, hown, hts⟩ (c_Y5_key l D cI cC cT a u_190 H.size v13_189 1 r_193 u_194 q_195) (cwV 2 hts gL_isWell_X5_key rfl rfl rfl (by decide +kernel) ⟨Nat.le_of_ble_eq_true rfl, Nat.le_of_ble_eq_true rfl⟩) (mPreVS [(FS cI cC cT a u_190)] flat1 hP hD hK hN [0] rfl (by decide) (va_recv hK (sP hP 0 rfl) (ci := 5) (q0 := 0) rfl (FS0 cI cC cT a u_190))) rfl rfl hl.1 rfl (lv_room (Nat.le_of_ble_eq_true rfl)) dL_isWell_450 ⟨Nat.le_of_ble_eq_true rfl, Nat.le_of_ble_eq_true rfl⟩) hP hD hS hA [0] rfl rfl rfl rfl (fun H locs hP hD hS => ?_)
              refine lv_istore (lv' := [(14, .int r_193), (0, .ref (a 0)), (1, .int r_1), (4, .int v4_185), (5, .int v5_186), (6, .int v6_187), (7, .int x_129), (12, .int v12_188), (13, .int v13_189)]) hx hb dL_isWell_453 hl (by decide) rfl (fun ls hl => ?_)
              refine lv_iload hx hb dL_isWell_455 (lv_at hl 3 rfl) ?_
              refine lv_iload hx hb dL_isWell_457 (lv_at hl 0 rfl) ?_
              obtain ⟨x_196, q_198, hf⟩ := bnd hf
              have K_197 : ∀ (H : Heap) (locs : List Loc), va_P D vwCl (List.flatten [(FS cI cC cT a u_194), (W_A cI cC cT g 20 hd_23)]) H → va_D A (List.flatten [(FS cI cC cT a u_194), (W_A cI cC cT g 20 hd_23)]) → va_S A s.heap H locs → ∀ (ls : Array Slot), lv_has ls 17 [(0, .ref (a 0)), (1, .int r_1), (5, .int v5_186), (6, .int v6_187), (7, .int x_129), (12, .int v12_188), (13, .int v13_189), (14, .int r_193)] → W p l e rm_L_isWell s m ([.ref (a 0)] : List Value).toArray below meth c H locs (0 + 1) (0 + 20) (MQ below (mQi D (mTY cI cC cT) out A (List.flatten [(FS cI cC cT a o_u)])) ([.ref (a 0)] : List Value).toArray s 1 20 A) (F0 m 468 ls [.int x_196, .int v4_185]) := by
                intro H locs hP hD hS ls hl
                refine lv_imul hx hb dL_isWell_468 ?_
                refine lv_istore (lv' := [(4, .int (v4_185 * x_196)), (0, .ref (a 0)), (1, .int r_1), (5, .int v5_186), (6, .int v6_187), (7, .int x_129), (12, .int v12_188), (13, .int v13_189), (14, .int r_193)]) hx hb dL_isWell_469 hl (by decide) rfl (fun ls hl => ?_)
                refine lv_iload hx hb dL_isWell_471 (lv_at hl 3 rfl) ?_
                refine lv_aload_n hx hb dL_isWell_473 rfl (lv_at hl 1 rfl) ?_
                refine lv_iload hx hb dL_isWell_474 (lv_at hl 7 rfl) ?_
                refine lv_iconst (v := 0) hx hb dL_isWell_476 (by decide) ?_
                obtain ⟨⟨r_200, u_201⟩, q_202, hf⟩ := bnd hf
                refine mGoiS (segs := [(FS cI cC cT a u_194), (W_A cI cC cT g 20 hd_23)]) (wcs := [(FS cI cC cT a u_194)]) (w1s := [(FS cI cC cT a u_201)]) (w2s := [(FS cI cC cT a u_201), (W_A cI cC cT g 20 hd_23)]) flat1 flat1 (va_runV (As := [.int v13_189, .int 0]) (rest := [.int v5_186]) ⟨hx, hb, hml, hown, hts⟩ (c_Y5_key l D cI cC cT a u_194 H.size v13_189 0 r_200 u_201 q_202) (cwV 2 hts gL_isWell_X5_key rfl rfl rfl (by decide +kernel) ⟨Nat.le_of_ble_eq_true rfl, Nat.le_of_ble_eq_true rfl⟩) (mPreVS [(FS cI cC cT a u_194)] flat1 hP hD hK hN [0] rfl (by decide) (va_recv hK (sP hP 0 rfl) (ci := 5) (q0 := 0) rfl (FS0 cI cC cT a u_194))) rfl rfl hl.1 rfl (lv_room (Nat.le_of_ble_eq_true rfl)) dL_isWell_477 ⟨Nat.le_of_ble_eq_true rfl, Nat.le_of_ble_eq_true rfl⟩) hP hD hS hA [0] rfl rfl rfl rfl (fun H locs hP hD hS => ?_)
                obtain ⟨x_203, q_205, hf⟩ := bnd hf
                have K_204 : ∀ (H : Heap) (locs : List Loc), va_P D vwCl (List.flatten [(FS cI cC cT a u_201), (W_A cI cC cT g 20 hd_23)]) H → va_D A (List.flatten [(FS cI cC cT a u_201), (W_A cI cC cT g 20 hd_23)]) → va_S A s.heap H locs → ∀ (ls : Array Slot), lv_has ls 17 [(0, .ref (a 0)), (1, .int r_1), (4, .int (v4_185 * x_196)), (6, .int v6_187), (7, .int x_129), (12, .int v12_188), (13, .int v13_189), (14, .int r_193)] → W p l e rm_L_isWell s m ([.ref (a 0)] : List Value).toArray below meth c H locs (0 + 1) (0 + 20) (MQ below (mQi D (mTY cI cC cT) out A (List.flatten [(FS cI cC cT a o_u)])) ([.ref (a 0)] : List Value).toArray s 1 20 A) (F0 m 488 ls [.int x_203, .int v5_186]) := by
                  intro H locs hP hD hS ls hl
                  refine lv_iadd hx hb dL_isWell_488 ?_
                  refine lv_istore (lv' := [(5, .int (v5_186 + x_203)), (0, .ref (a 0)), (1, .int r_1), (4, .int (v4_185 * x_196)), (6, .int v6_187), (7, .int x_129), (12, .int v12_188), (13, .int v13_189), (14, .int r_193)]) hx hb dL_isWell_489 hl (by decide) rfl (fun ls hl => ?_)
                  refine lv_iload hx hb dL_isWell_491 (lv_at hl 4 rfl) ?_
                  refine lv_aload_n hx hb dL_isWell_493 rfl (lv_at hl 1 rfl) ?_
                  refine lv_iload hx hb dL_isWell_494 (lv_at hl 7 rfl) ?_
                  refine lv_iconst (v := 0) hx hb dL_isWell_496 (by decide) ?_
                  obtain ⟨⟨r_207, u_208⟩, q_209, hf⟩ := bnd hf
                  refine mGoiS (segs := [(FS cI cC cT a u_201), (W_A cI cC cT g 20 hd_23)]) (wcs := [(FS cI cC cT a u_201)]) (w1s := [(FS cI cC cT a u_208)]) (w2s := [(FS cI cC cT a u_208), (W_A cI cC cT g 20 hd_23)]) flat1 flat1 (va_runV (As := [.int v13_189, .int 0]) (rest := [.int v6_187]) ⟨hx, hb, hml, hown, hts⟩ (c_Y5_key l D cI cC cT a u_201 H.size v13_189 0 r_207 u_208 q_209) (cwV 2 hts gL_isWell_X5_key rfl rfl rfl (by decide +kernel) ⟨Nat.le_of_ble_eq_true rfl, Nat.le_of_ble_eq_true rfl⟩) (mPreVS [(FS cI cC cT a u_201)] flat1 hP hD hK hN [0] rfl (by decide) (va_recv hK (sP hP 0 rfl) (ci := 5) (q0 := 0) rfl (FS0 cI cC cT a u_201))) rfl rfl hl.1 rfl (lv_room (Nat.le_of_ble_eq_true rfl)) dL_isWell_497 ⟨Nat.le_of_ble_eq_true rfl, Nat.le_of_ble_eq_true rfl⟩) hP hD hS hA [0] rfl rfl rfl rfl (fun H locs hP hD hS => ?_)
                  refine lv_iconst (v := 1) hx hb dL_isWell_500 (by decide) ?_
                  obtain ⟨x_210, q_212, hf⟩ := bnd hf
                  have K_211 : ∀ (H : Heap) (locs : List Loc), va_P D vwCl (List.flatten [(FS cI cC cT a u_208), (W_A cI cC cT g 20 hd_23)]) H → va_D A (List.flatten [(FS cI cC cT a u_208), (W_A cI cC cT g 20 hd_23)]) → va_S A s.heap H locs → ∀ (ls : Array Slot), lv_has ls 17 [(0, .ref (a 0)), (1, .int r_1), (4, .int (v4_185 * x_196)), (5, .int (v5_186 + x_203)), (7, .int x_129), (12, .int v12_188), (13, .int v13_189), (14, .int r_193)] → W p l e rm_L_isWell s m ([.ref (a 0)] : List Value).toArray below meth c H locs (0 + 1) (0 + 20) (MQ below (mQi D (mTY cI cC cT) out A (List.flatten [(FS cI cC cT a o_u)])) ([.ref (a 0)] : List Value).toArray s 1 20 A) (F0 m 509 ls [.int x_210, .int v6_187]) := by
                    intro H locs hP hD hS ls hl
                    refine lv_iadd hx hb dL_isWell_509 ?_
                    refine lv_istore (lv' := [(6, .int (v6_187 + x_210)), (0, .ref (a 0)), (1, .int r_1), (4, .int (v4_185 * x_196)), (5, .int (v5_186 + x_203)), (7, .int x_129), (12, .int v12_188), (13, .int v13_189), (14, .int r_193)]) hx hb dL_isWell_510 hl (by decide) rfl (fun ls hl => ?_)
                    refine lv_iload hx hb dL_isWell_512 (lv_at hl 6 rfl) ?_
                    obtain ⟨⟨x_214, u_215⟩, q_217, hf⟩ := bnd hf
                    have K_216 : ∀ (H : Heap) (locs : List Loc), va_P D vwCl (List.flatten [(FS cI cC cT a u_215), (W_A cI cC cT g 20 hd_23)]) H → va_D A (List.flatten [(FS cI cC cT a u_215), (W_A cI cC cT g 20 hd_23)]) → va_S A s.heap H locs → ∀ (ls : Array Slot), lv_has ls 17 [(0, .ref (a 0)), (1, .int r_1), (4, .int (v4_185 * x_196)), (5, .int (v5_186 + x_203)), (6, .int (v6_187 + x_210)), (7, .int x_129), (13, .int v13_189)] → W p l e rm_L_isWell s m ([.ref (a 0)] : List Value).toArray below meth c H locs (0 + 1) (0 + 20) (MQ below (mQi D (mTY cI cC cT) out A (List.flatten [(FS cI cC cT a o_u)])) ([.ref (a 0)] : List Value).toArray s 1 20 A) (F0 m 583 ls [.int x_214]) := by
                      intro H locs hP hD hS ls hl
                      refine lv_istore (lv' := [(12, .int x_214), (0, .ref (a 0)), (1, .int r_1), (4, .int (v4_185 * x_196)), (5, .int (v5_186 + x_203)), (6, .int (v6_187 + x_210)), (7, .int x_129), (13, .int v13_189)]) hx hb dL_isWell_583 hl (by decide) rfl (fun ls hl => ?_)
                      refine lv_iinc (v := v13_189 + 1) (lv' := [(13, .int (v13_189 + 1)), (12, .int x_214), (0, .ref (a 0)), (1, .int r_1), (4, .int (v4_185 * x_196)), (5, .int (v5_186 + x_203)), (6, .int (v6_187 + x_210)), (7, .int x_129)]) hx hb dL_isWell_585 hl (k := 7) rfl rfl (by decide) rfl (fun ls hl => ?_)
                      refine lv_goto (tgt := 439) hx hb dL_isWell_588 (by decide) ?_
                      cases hf
                      have hf := ho_191.1 _ rfl
                      exact ih_191 _ _ _ _ _ _ hf _ _ hP hD hS _ (lv_sub hl [2, 3, 4, 5, 6, 7, 1, 0] rfl)
                    have hf := q_217
                    refine lv_if_eq (tgt := 582) hx hb dL_isWell_514 (by decide) (fun c_218 => ?_) (fun c_218 => ?_)
                    · have hf := ite_t hf c_218
                      refine lv_iconst (v := 0) hx hb dL_isWell_582 (by decide) ?_
                      cases hf
                      exact K_216 _ _ hP hD hS _ (lv_sub hl [1, 2, 3, 4, 0, 5, 7] rfl)
                    · have hf := ite_f hf c_218
                      refine lv_iload hx hb dL_isWell_517 (lv_at hl 8 rfl) ?_
                      refine lv_aload_n hx hb dL_isWell_519 rfl (lv_at hl 1 rfl) ?_
                      refine lv_iload hx hb dL_isWell_520 (lv_at hl 7 rfl) ?_
                      refine lv_iconst (v := 0) hx hb dL_isWell_522 (by decide) ?_
                      obtain ⟨⟨r_219, u_220⟩, q_221, hf⟩ := bnd hf
                      refine mGoiS (segs := [(FS cI cC cT a u_208), (W_A cI cC cT g 20 hd_23)]) (wcs := [(FS cI cC cT a u_208)]) (w1s := [(FS cI cC cT a u_220)]) (w2s := [(FS cI cC cT a u_220), (W_A cI cC cT g 20 hd_23)]) flat1 flat1 (va_runV (As := [.int v13_189, .int 0]) (rest := [.int r_193]) ⟨hx, hb, hml, hown, hts⟩ (c_Y5_key l D cI cC cT a u_208 H.size v13_189 0 r_219 u_220 q_221) (cwV 2 hts gL_isWell_X5_key rfl rfl rfl (by decide +kernel) ⟨Nat.le_of_ble_eq_true rfl, Nat.le_of_ble_eq_true rfl⟩) (mPreVS [(FS cI cC cT a u_208)] flat1 hP hD hK hN [0] rfl (by decide) (va_recv hK (sP hP 0 rfl) (ci := 5) (q0 := 0) rfl (FS0 cI cC cT a u_208))) rfl rfl hl.1 rfl (lv_room (Nat.le_of_ble_eq_true rfl)) dL_isWell_523 ⟨Nat.le_of_ble_eq_true rfl, Nat.le_of_ble_eq_true rfl⟩) hP hD hS hA [0] rfl rfl rfl rfl (fun H locs hP hD hS => ?_)
                      refine lv_icmp_gt (tgt := 582) hx hb dL_isWell_526 (by decide) (fun c_222 => ?_) (fun c_222 => ?_)
                      · have hf := ite_t hf c_222
                        refine lv_iconst (v := 0) hx hb dL_isWell_582 (by decide) ?_
                        cases hf
                        exact K_216 _ _ hP hD hS _ (lv_sub hl [1, 2, 3, 4, 0, 5, 7] rfl)
                      · have hf := ite_f hf c_222
                        refine lv_iload hx hb dL_isWell_529 (lv_at hl 8 rfl) ?_
                        obtain ⟨x_223, q_225, hf⟩ := bnd hf
                        have K_224 : ∀ (H : Heap) (locs : List Loc), va_P D vwCl (List.flatten [(FS cI cC cT a u_220), (W_A cI cC cT g 20 hd_23)]) H → va_D A (List.flatten [(FS cI cC cT a u_220), (W_A cI cC cT g 20 hd_23)]) → va_S A s.heap H locs → ∀ (ls : Array Slot), lv_has ls 17 [(0, .ref (a 0)), (1, .int r_1), (4, .int (v4_185 * x_196)), (5, .int (v5_186 + x_203)), (6, .int (v6_187 + x_210)), (7, .int x_129), (13, .int v13_189), (14, .int r_193)] → W p l e rm_L_isWell s m ([.ref (a 0)] : List Value).toArray below meth c H locs (0 + 1) (0 + 20) (MQ below (mQi D (mTY cI cC cT) out A (List.flatten [(FS cI cC cT a o_u)])) ([.ref (a 0)] : List Value).toArray s 1 20 A) (F0 m 539 ls [.int x_223]) := by
                          intro H locs hP hD hS ls hl
                          refine lv_aload_n hx hb dL_isWell_539 rfl (lv_at hl 0 rfl) ?_
                          refine lv_iload hx hb dL_isWell_540 (lv_at hl 6 rfl) ?_
                          refine lv_iconst (v := 0) hx hb dL_isWell_542 (by decide) ?_
                          obtain ⟨⟨r_227, u_228⟩, q_229, hf⟩ := bnd hf
                          refine mGoiS (segs := [(FS cI cC cT a u_220), (W_A cI cC cT g 20 hd_23)]) (wcs := [(FS cI cC cT a u_220)]) (w1s := [(FS cI cC cT a u_228)]) (w2s := [(FS cI cC cT a u_228), (W_A cI cC cT g 20 hd_23)]) flat1 flat1 (va_runV (As := [.int v13_189, .int 0]) (rest := [.int x_223]) ⟨hx, hb, hml, hown, hts⟩ (c_Y5_key l D cI cC cT a u_220 H.size v13_189 0 r_227 u_228 q_229) (cwV 2 hts gL_isWell_X5_key rfl rfl rfl (by decide +kernel) ⟨Nat.le_of_ble_eq_true rfl, Nat.le_of_ble_eq_true rfl⟩) (mPreVS [(FS cI cC cT a u_220)] flat1 hP hD hK hN [0] rfl (by decide) (va_recv hK (sP hP 0 rfl) (ci := 5) (q0 := 0) rfl (FS0 cI cC cT a u_220))) rfl rfl hl.1 rfl (lv_room (Nat.le_of_ble_eq_true rfl)) dL_isWell_543 ⟨Nat.le_of_ble_eq_true rfl, Nat.le_of_ble_eq_true rfl⟩) hP hD hS hA [0] rfl rfl rfl rfl (fun H locs hP hD hS => ?_)
                          obtain ⟨x_230, q_232, hf⟩ := bnd hf
                          have K_231 : ∀ (H : Heap) (locs : List Loc), va_P D vwCl (List.flatten [(FS cI cC cT a u_228), (W_A cI cC cT g 20 hd_23)]) H → va_D A (List.flatten [(FS cI cC cT a u_228), (W_A cI cC cT g 20 hd_23)]) → va_S A s.heap H locs → ∀ (ls : Array Slot), lv_has ls 17 [(0, .ref (a 0)), (1, .int r_1), (4, .int (v4_185 * x_196)), (5, .int (v5_186 + x_203)), (6, .int (v6_187 + x_210)), (7, .int x_129), (13, .int v13_189), (14, .int r_193)] → W p l e rm_L_isWell s m ([.ref (a 0)] : List Value).toArray below meth c H locs (0 + 1) (0 + 20) (MQ below (mQi D (mTY cI cC cT) out A (List.flatten [(FS cI cC cT a o_u)])) ([.ref (a 0)] : List Value).toArray s 1 20 A) (F0 m 554 ls [.int x_230, .int x_223]) := by
                            intro H locs hP hD hS ls hl
                            refine lv_icmp_ne (tgt := 582) hx hb dL_isWell_554 (by decide) (fun c_234 => ?_) (fun c_234 => ?_)
                            · have hf := ite_f hf c_234
                              refine lv_iconst (v := 0) hx hb dL_isWell_582 (by decide) ?_
                              cases hf
                              exact K_216 _ _ hP hD hS _ (lv_sub hl [0, 1, 2, 3, 4, 5, 6] rfl)
                            · have hf := ite_t hf c_234
                              refine lv_iload hx hb dL_isWell_557 (lv_at hl 7 rfl) ?_
                              refine lv_if_eq (tgt := 578) hx hb dL_isWell_559 (by decide) (fun c_235 => ?_) (fun c_235 => ?_)
                              · have hf := ite_t hf c_235
                                refine lv_iconst (v := 1) hx hb dL_isWell_578 (by decide) ?_
                                refine lv_goto (tgt := 583) hx hb dL_isWell_579 (by decide) ?_
                                cases hf
                                exact K_216 _ _ hP hD hS _ (lv_sub hl [0, 1, 2, 3, 4, 5, 6] rfl)
                              · have hf := ite_f hf c_235
                                refine lv_aload_n hx hb dL_isWell_562 rfl (lv_at hl 0 rfl) ?_
                                refine lv_aload_n hx hb dL_isWell_563 rfl (lv_at hl 0 rfl) ?_
                                refine lv_iload hx hb dL_isWell_564 (lv_at hl 6 rfl) ?_
                                refine lv_iconst (v := 3) hx hb dL_isWell_566 (by decide) ?_
                                obtain ⟨⟨r_236, u_237⟩, q_238, hf⟩ := bnd hf
                                refine mGoiS (segs := [(FS cI cC cT a u_228), (W_A cI cC cT g 20 hd_23)]) (wcs := [(FS cI cC cT a u_228)]) (w1s := [(FS cI cC cT a u_237)]) (w2s := [(FS cI cC cT a u_237), (W_A cI cC cT g 20 hd_23)]) flat1 flat1 (va_runV (As := [.int v13_189, .int 3]) (rest := [.ref (a 0)]) ⟨hx, hb, hml, hown, hts⟩ (c_Y5_key l D cI cC cT a u_228 H.size v13_189 3 r_236 u_237 q_238) (cwV 2 hts gL_isWell_X5_key rfl rfl rfl (by decide +kernel) ⟨Nat.le_of_ble_eq_true rfl, Nat.le_of_ble_eq_true rfl⟩) (mPreVS [(FS cI cC cT a u_228)] flat1 hP hD hK hN [0] rfl (by decide) (va_recv hK (sP hP 0 rfl) (ci := 5) (q0 := 0) rfl (FS0 cI cC cT a u_228))) rfl rfl hl.1 rfl (lv_room (Nat.le_of_ble_eq_true rfl)) dL_isWell_567 ⟨Nat.le_of_ble_eq_true rfl, Nat.le_of_ble_eq_true rfl⟩) hP hD hS hA [0] rfl rfl rfl rfl (fun H locs hP hD hS => ?_)
                                refine lv_iconst (v := 4) hx hb dL_isWell_570 (by decide) ?_
                                obtain ⟨⟨r_239, u_240⟩, q_241, hf⟩ := bnd hf
                                refine mGoiS (segs := [(FS cI cC cT a u_237), (W_A cI cC cT g 20 hd_23)]) (wcs := [(FS cI cC cT a u_237)]) (w1s := [(FS cI cC cT a u_240)]) (w2s := [(FS cI cC cT a u_240), (W_A cI cC cT g 20 hd_23)]) flat1 flat1 (va_runV (As := [.int r_236, .int 4]) (rest := []) ⟨hx, hb, hml, hown, hts⟩ (c_Y5_row l D cI cC cT a u_237 H.size r_236 4 r_239 u_240 q_241) (cwV 2 hts gL_isWell_X5_row rfl rfl rfl (by decide +kernel) ⟨Nat.le_of_ble_eq_true rfl, Nat.le_of_ble_eq_true rfl⟩) (mPreVS [(FS cI cC cT a u_237)] flat1 hP hD hK hN [0] rfl (by decide) (va_recv hK (sP hP 0 rfl) (ci := 5) (q0 := 0) rfl (FS0 cI cC cT a u_237))) rfl rfl hl.1 rfl (lv_room (Nat.le_of_ble_eq_true rfl)) dL_isWell_571 ⟨Nat.le_of_ble_eq_true rfl, Nat.le_of_ble_eq_true rfl⟩) hP hD hS hA [0] rfl rfl rfl rfl (fun H locs hP hD hS => ?_)
                                refine lv_iconst (v := 1) hx hb dL_isWell_574 (by decide) ?_
                                refine lv_icmp_ne (tgt := 582) hx hb dL_isWell_575 (by decide) (fun c_242 => ?_) (fun c_242 => ?_)
                                · have hf := ite_f hf c_242
                                  refine lv_iconst (v := 0) hx hb dL_isWell_582 (by decide) ?_
                                  cases hf
                                  exact K_216 _ _ hP hD hS _ (lv_sub hl [0, 1, 2, 3, 4, 5, 6] rfl)
                                · have hf := ite_t hf c_242
                                  refine lv_iconst (v := 1) hx hb dL_isWell_578 (by decide) ?_
                                  refine lv_goto (tgt := 583) hx hb dL_isWell_579 (by decide) ?_
                                  cases hf
                                  exact K_216 _ _ hP hD hS _ (lv_sub hl [0, 1, 2, 3, 4, 5, 6] rfl)
                          have hf := q_232
                          refine lv_if_le (tgt := 553) hx hb dL_isWell_546 (by decide) (fun c_233 => ?_) (fun c_233 => ?_)
                          · have hf := ite_t hf c_233
                            refine lv_iconst (v := 0) hx hb dL_isWell_553 (by decide) ?_
                            cases hf
                            exact K_231 _ _ hP hD hS _ (lv_sub hl [0, 1, 2, 3, 4, 5, 6, 7] rfl)
                          · have hf := ite_f hf c_233
                            refine lv_iconst (v := 1) hx hb dL_isWell_549 (by decide) ?_
                            refine lv_goto (tgt := 554) hx hb dL_isWell_550 (by decide) ?_
                            cases hf
                            exact K_231 _ _ hP hD hS _ (lv_sub hl [0, 1, 2, 3, 4, 5, 6, 7] rfl)
                        have hf := q_225
                        refine lv_if_le (tgt := 538) hx hb dL_isWell_531 (by decide) (fun c_226 => ?_) (fun c_226 => ?_)
                        · have hf := ite_t hf c_226
                          refine lv_iconst (v := 0) hx hb dL_isWell_538 (by decide) ?_
                          cases hf
                          exact K_224 _ _ hP hD hS _ (lv_sub hl [1, 2, 3, 4, 0, 5, 7, 8] rfl)
                        · have hf := ite_f hf c_226
                          refine lv_iconst (v := 1) hx hb dL_isWell_534 (by decide) ?_
                          refine lv_goto (tgt := 539) hx hb dL_isWell_535 (by decide) ?_
                          cases hf
                          exact K_224 _ _ hP hD hS _ (lv_sub hl [1, 2, 3, 4, 0, 5, 7, 8] rfl)
                  have hf := q_212
                  refine lv_icmp_le (tgt := 508) hx hb dL_isWell_501 (by decide) (fun c_213 => ?_) (fun c_213 => ?_)
                  · have hf := ite_t hf c_213
                    refine lv_iconst (v := 0) hx hb dL_isWell_508 (by decide) ?_
                    cases hf
                    exact K_211 _ _ hP hD hS _ (lv_sub hl [1, 2, 3, 0, 5, 6, 7, 8] rfl)
                  · have hf := ite_f hf c_213
                    refine lv_iconst (v := 1) hx hb dL_isWell_504 (by decide) ?_
                    refine lv_goto (tgt := 509) hx hb dL_isWell_505 (by decide) ?_
                    cases hf
                    exact K_211 _ _ hP hD hS _ (lv_sub hl [1, 2, 3, 0, 5, 6, 7, 8] rfl)
                have hf := q_205
                refine lv_if_le (tgt := 487) hx hb dL_isWell_480 (by decide) (fun c_206 => ?_) (fun c_206 => ?_)
                · have hf := ite_t hf c_206
                  refine lv_iconst (v := 0) hx hb dL_isWell_487 (by decide) ?_
                  cases hf
                  exact K_204 _ _ hP hD hS _ (lv_sub hl [1, 2, 0, 4, 5, 6, 7, 8] rfl)
                · have hf := ite_f hf c_206
                  refine lv_iconst (v := 1) hx hb dL_isWell_483 (by decide) ?_
                  refine lv_goto (tgt := 488) hx hb dL_isWell_484 (by decide) ?_
                  cases hf
                  exact K_204 _ _ hP hD hS _ (lv_sub hl [1, 2, 0, 4, 5, 6, 7, 8] rfl)
              have hf := q_198
              refine lv_if_le (tgt := 467) hx hb dL_isWell_459 (by decide) (fun c_199 => ?_) (fun c_199 => ?_)
              · have hf := ite_t hf c_199
                refine lv_iconst (v := 1) hx hb dL_isWell_467 (by decide) ?_
                cases hf
                exact K_197 _ _ hP hD hS _ (lv_sub hl [1, 2, 4, 5, 6, 7, 8, 0] rfl)
              · have hf := ite_f hf c_199
                refine lv_iload hx hb dL_isWell_462 (lv_at hl 0 rfl) ?_
                refine lv_goto (tgt := 468) hx hb dL_isWell_464 (by decide) ?_
                cases hf
                exact K_197 _ _ hP hD hS _ (lv_sub hl [1, 2, 4, 5, 6, 7, 8, 0] rfl)
        exact LP_191 _ _ _ _ _ _ _ hf _ _ hP hD hS _ (lv_sub hl [1, 2, 3, 4, 5, 6, 7, 0] rfl)
      have hf := q_133
      have LP_138 : ∀ (n_138 : Nat) (v7_134 : Int32) (v12_135 : Int32) (v13_136 : Int32) (u_137 : SSt), iter n_138 (b_L_isWell_3 r_5 r_1 hd_23) ((v7_134, v12_135, v13_136, u_137)) = some ((x_129, x_130, u_131)) → ∀ (H : Heap) (locs : List Loc), va_P D vwCl (List.flatten [(FS cI cC cT a u_137), (W_A cI cC cT g 20 hd_23)]) H → va_D A (List.flatten [(FS cI cC cT a u_137), (W_A cI cC cT g 20 hd_23)]) → va_S A s.heap H locs → ∀ (ls : Array Slot), lv_has ls 17 [(0, .ref (a 0)), (1, .int r_1), (2, .int r_5), (3, .ref g), (4, .int 1), (5, .int 0), (6, .int 0), (7, .int v7_134), (12, .int v12_135), (13, .int v13_136)] → W p l e rm_L_isWell s m ([.ref (a 0)] : List Value).toArray below meth c H locs (0 + 1) (0 + 20) (MQ below (mQi D (mTY cI cC cT) out A (List.flatten [(FS cI cC cT a o_u)])) ([.ref (a 0)] : List Value).toArray s 1 20 A) (F0 m 332 ls []) := by
        intro n_138
        induction n_138 with
        | zero => intro v7_134 v12_135 v13_136 u_137 hf; exact (iter_zero hf).elim
        | succ n_138 ih_138 =>
          intro v7_134 v12_135 v13_136 u_137 hf H locs hP hD hS ls hl
          obtain ⟨o_138, hf, ho_138⟩ := iter_succ hf
          dsimp only [b_L_isWell_3] at hf
          refine lv_iload hx hb dL_isWell_332 (lv_at hl 9 rfl) ?_
          refine lv_iload_n hx hb dL_isWell_334 rfl (lv_at hl 2 rfl) ?_
          refine lv_icmp_ge (tgt := 436) hx hb dL_isWell_335 (by decide) (fun c_139 => ?_) (fun c_139 => ?_)
          · have hf := ite_t hf c_139
            cases hf
            have hf := ho_138.2 _ rfl
            cases hf
            exact K_132 _ _ hP hD hS _ (lv_sub hl [0, 1, 4, 5, 6, 7, 8] rfl)
          · have hf := ite_f hf c_139
            refine lv_iload hx hb dL_isWell_338 (lv_at hl 8 rfl) ?_
            refine lv_if_eq (tgt := 436) hx hb dL_isWell_340 (by decide) (fun c_140 => ?_) (fun c_140 => ?_)
            · have hf := ite_t hf c_140
              cases hf
              have hf := ho_138.2 _ rfl
              cases hf
              exact K_132 _ _ hP hD hS _ (lv_sub hl [0, 1, 4, 5, 6, 7, 8] rfl)
            · have hf := ite_f hf c_140
              refine lv_aload_n hx hb dL_isWell_343 rfl (lv_at hl 3 rfl) ?_
              refine lv_iload hx hb dL_isWell_344 (lv_at hl 9 rfl) ?_
              obtain ⟨h_141, hf⟩ := grd hf
              refine va_iald hx hb hK hP 46 0 rfl rfl h_141 dL_isWell_346 ?_
              refine lv_aload_n hx hb dL_isWell_347 rfl (lv_at hl 0 rfl) ?_
              refine lv_iload hx hb dL_isWell_348 (lv_at hl 9 rfl) ?_
              refine lv_iconst (v := 4) hx hb dL_isWell_350 (by decide) ?_
              obtain ⟨⟨r_142, u_143⟩, q_144, hf⟩ := bnd hf
              refine mGoiS (segs := [(FS cI cC cT a u_137), (W_A cI cC cT g 20 hd_23)]) (wcs := [(FS cI cC cT a u_137)]) (w1s := [(FS cI cC cT a u_143)]) (w2s := [(FS cI cC cT a u_143), (W_A cI cC cT g 20 hd_23)]) flat1 flat1 (va_runV (As := [.int v13_136, .int 4]) (rest := [.int (hd_23 v13_136.toNatClampNeg)]) ⟨hx, hb, hml, hown, hts⟩ (c_Y5_row l D cI cC cT a u_137 H.size v13_136 4 r_142 u_143 q_144) (cwV 2 hts gL_isWell_X5_row rfl rfl rfl (by decide +kernel) ⟨Nat.le_of_ble_eq_true rfl, Nat.le_of_ble_eq_true rfl⟩) (mPreVS [(FS cI cC cT a u_137)] flat1 hP hD hK hN [0] rfl (by decide) (va_recv hK (sP hP 0 rfl) (ci := 5) (q0 := 0) rfl (FS0 cI cC cT a u_137))) rfl rfl hl.1 rfl (lv_room (Nat.le_of_ble_eq_true rfl)) dL_isWell_351 ⟨Nat.le_of_ble_eq_true rfl, Nat.le_of_ble_eq_true rfl⟩) hP hD hS hA [0] rfl rfl rfl rfl (fun H locs hP hD hS => ?_)
              refine lv_iconst (v := 1) hx hb dL_isWell_354 (by decide) ?_
              obtain ⟨⟨x_145, u_146⟩, q_148, hf⟩ := bnd hf
              have K_147 : ∀ (H : Heap) (locs : List Loc), va_P D vwCl (List.flatten [(FS cI cC cT a u_146), (W_A cI cC cT g 20 hd_23)]) H → va_D A (List.flatten [(FS cI cC cT a u_146), (W_A cI cC cT g 20 hd_23)]) → va_S A s.heap H locs → ∀ (ls : Array Slot), lv_has ls 17 [(0, .ref (a 0)), (1, .int r_1), (2, .int r_5), (3, .ref g), (4, .int 1), (5, .int 0), (6, .int 0), (7, .int v7_134), (13, .int v13_136)] → W p l e rm_L_isWell s m ([.ref (a 0)] : List Value).toArray below meth c H locs (0 + 1) (0 + 20) (MQ below (mQi D (mTY cI cC cT) out A (List.flatten [(FS cI cC cT a o_u)])) ([.ref (a 0)] : List Value).toArray s 1 20 A) (F0 m 376 ls [.int x_145, .int (hd_23 v13_136.toNatClampNeg)]) := by
                intro H locs hP hD hS ls hl
                obtain ⟨⟨x_157, u_158⟩, q_160, hf⟩ := bnd hf
                have K_159 : ∀ (H : Heap) (locs : List Loc), va_P D vwCl (List.flatten [(FS cI cC cT a u_158), (W_A cI cC cT g 20 hd_23)]) H → va_D A (List.flatten [(FS cI cC cT a u_158), (W_A cI cC cT g 20 hd_23)]) → va_S A s.heap H locs → ∀ (ls : Array Slot), lv_has ls 17 [(0, .ref (a 0)), (1, .int r_1), (2, .int r_5), (3, .ref g), (4, .int 1), (5, .int 0), (6, .int 0), (7, .int v7_134), (13, .int v13_136)] → W p l e rm_L_isWell s m ([.ref (a 0)] : List Value).toArray below meth c H locs (0 + 1) (0 + 20) (MQ below (mQi D (mTY cI cC cT) out A (List.flatten [(FS cI cC cT a o_u)])) ([.ref (a 0)] : List Value).toArray s 1 20 A) (F0 m 416 ls [.int x_157]) := by
                  intro H locs hP hD hS ls hl
                  refine lv_istore (lv' := [(12, .int x_157), (0, .ref (a 0)), (1, .int r_1), (2, .int r_5), (3, .ref g), (4, .int 1), (5, .int 0), (6, .int 0), (7, .int v7_134), (13, .int v13_136)]) hx hb dL_isWell_416 hl (by decide) rfl (fun ls hl => ?_)
                  refine lv_iload hx hb dL_isWell_418 (lv_at hl 8 rfl) ?_
                  refine lv_aload_n hx hb dL_isWell_420 rfl (lv_at hl 1 rfl) ?_
                  refine lv_iload hx hb dL_isWell_421 (lv_at hl 9 rfl) ?_
                  refine lv_iconst (v := 5) hx hb dL_isWell_423 (by decide) ?_
                  obtain ⟨⟨r_175, u_176⟩, q_177, hf⟩ := bnd hf
                  refine mGoiS (segs := [(FS cI cC cT a u_158), (W_A cI cC cT g 20 hd_23)]) (wcs := [(FS cI cC cT a u_158)]) (w1s := [(FS cI cC cT a u_176)]) (w2s := [(FS cI cC cT a u_176), (W_A cI cC cT g 20 hd_23)]) flat1 flat1 (va_runV (As := [.int v13_136, .int 5]) (rest := [.int v7_134]) ⟨hx, hb, hml, hown, hts⟩ (c_Y5_row l D cI cC cT a u_158 H.size v13_136 5 r_175 u_176 q_177) (cwV 2 hts gL_isWell_X5_row rfl rfl rfl (by decide +kernel) ⟨Nat.le_of_ble_eq_true rfl, Nat.le_of_ble_eq_true rfl⟩) (mPreVS [(FS cI cC cT a u_158)] flat1 hP hD hK hN [0] rfl (by decide) (va_recv hK (sP hP 0 rfl) (ci := 5) (q0 := 0) rfl (FS0 cI cC cT a u_158))) rfl rfl hl.1 rfl (lv_room (Nat.le_of_ble_eq_true rfl)) dL_isWell_424 ⟨Nat.le_of_ble_eq_true rfl, Nat.le_of_ble_eq_true rfl⟩) hP hD hS hA [0] rfl rfl rfl rfl (fun H locs hP hD hS => ?_)
                  refine lv_iadd hx hb dL_isWell_427 ?_
                  refine lv_istore (lv' := [(7, .int (v7_134 + r_175)), (12, .int x_157), (0, .ref (a 0)), (1, .int r_1), (2, .int r_5), (3, .ref g), (4, .int 1), (5, .int 0), (6, .int 0), (13, .int v13_136)]) hx hb dL_isWell_428 hl (by decide) rfl (fun ls hl => ?_)
                  refine lv_iinc (v := v13_136 + 1) (lv' := [(13, .int (v13_136 + 1)), (7, .int (v7_134 + r_175)), (12, .int x_157), (0, .ref (a 0)), (1, .int r_1), (2, .int r_5), (3, .ref g), (4, .int 1), (5, .int 0), (6, .int 0)]) hx hb dL_isWell_430 hl (k := 9) rfl rfl (by decide) rfl (fun ls hl => ?_)
                  refine lv_goto (tgt := 332) hx hb dL_isWell_433 (by decide) ?_
                  cases hf
                  have hf := ho_138.1 _ rfl
                  exact ih_138 _ _ _ _ hf _ _ hP hD hS _ (lv_sub hl [3, 4, 5, 6, 7, 8, 9, 1, 2, 0] rfl)
                have hf := q_160
                refine lv_icmp_ne (tgt := 415) hx hb dL_isWell_376 (by decide) (fun c_161 => ?_) (fun c_161 => ?_)
                · have hf := ite_f hf c_161
                  refine lv_iconst (v := 0) hx hb dL_isWell_415 (by decide) ?_
                  cases hf
                  exact K_159 _ _ hP hD hS _ (lv_sub hl [0, 1, 2, 3, 4, 5, 6, 7, 8] rfl)
                · have hf := ite_t hf c_161
                  refine lv_aload_n hx hb dL_isWell_379 rfl (lv_at hl 0 rfl) ?_
                  refine lv_iload hx hb dL_isWell_380 (lv_at hl 8 rfl) ?_
                  refine lv_iconst (v := 5) hx hb dL_isWell_382 (by decide) ?_
                  obtain ⟨⟨r_162, u_163⟩, q_164, hf⟩ := bnd hf
                  refine mGoiS (segs := [(FS cI cC cT a u_146), (W_A cI cC cT g 20 hd_23)]) (wcs := [(FS cI cC cT a u_146)]) (w1s := [(FS cI cC cT a u_163)]) (w2s := [(FS cI cC cT a u_163), (W_A cI cC cT g 20 hd_23)]) flat1 flat1 (va_runV (As := [.int v13_136, .int 5]) (rest := []) ⟨hx, hb, hml, hown, hts⟩ (c_Y5_row l D cI cC cT a u_146 H.size v13_136 5 r_162 u_163 q_164) (cwV 2 hts gL_isWell_X5_row rfl rfl rfl (by decide +kernel) ⟨Nat.le_of_ble_eq_true rfl, Nat.le_of_ble_eq_true rfl⟩) (mPreVS [(FS cI cC cT a u_146)] flat1 hP hD hK hN [0] rfl (by decide) (va_recv hK (sP hP 0 rfl) (ci := 5) (q0 := 0) rfl (FS0 cI cC cT a u_146))) rfl rfl hl.1 rfl (lv_room (Nat.le_of_ble_eq_true rfl)) dL_isWell_383 ⟨Nat.le_of_ble_eq_true rfl, Nat.le_of_ble_eq_true rfl⟩) hP hD hS hA [0] rfl rfl rfl rfl (fun H locs hP hD hS => ?_)
                  refine lv_iconst (v := 1) hx hb dL_isWell_386 (by decide) ?_
                  obtain ⟨x_165, q_167, hf⟩ := bnd hf
                  have K_166 : ∀ (H : Heap) (locs : List Loc), va_P D vwCl (List.flatten [(FS cI cC cT a u_163), (W_A cI cC cT g 20 hd_23)]) H → va_D A (List.flatten [(FS cI cC cT a u_163), (W_A cI cC cT g 20 hd_23)]) → va_S A s.heap H locs → ∀ (ls : Array Slot), lv_has ls 17 [(0, .ref (a 0)), (1, .int r_1), (2, .int r_5), (3, .ref g), (4, .int 1), (5, .int 0), (6, .int 0), (7, .int v7_134), (13, .int v13_136)] → W p l e rm_L_isWell s m ([.ref (a 0)] : List Value).toArray below meth c H locs (0 + 1) (0 + 20) (MQ below (mQi D (mTY cI cC cT) out A (List.flatten [(FS cI cC cT a o_u)])) ([.ref (a 0)] : List Value).toArray s 1 20 A) (F0 m 395 ls [.int x_165]) := by
                    intro H locs hP hD hS ls hl
                    refine lv_aload_n hx hb dL_isWell_395 rfl (lv_at hl 3 rfl) ?_
                    refine lv_iload hx hb dL_isWell_396 (lv_at hl 8 rfl) ?_
                    obtain ⟨h_169, hf⟩ := grd hf
                    refine va_iald hx hb hK hP 46 0 rfl rfl h_169 dL_isWell_398 ?_
                    refine lv_iload_n hx hb dL_isWell_399 rfl (lv_at hl 1 rfl) ?_
                    obtain ⟨x_170, q_172, hf⟩ := bnd hf
                    have K_171 : ∀ (H : Heap) (locs : List Loc), va_P D vwCl (List.flatten [(FS cI cC cT a u_163), (W_A cI cC cT g 20 hd_23)]) H → va_D A (List.flatten [(FS cI cC cT a u_163), (W_A cI cC cT g 20 hd_23)]) → va_S A s.heap H locs → ∀ (ls : Array Slot), lv_has ls 17 [(0, .ref (a 0)), (1, .int r_1), (2, .int r_5), (3, .ref g), (4, .int 1), (5, .int 0), (6, .int 0), (7, .int v7_134), (13, .int v13_136)] → W p l e rm_L_isWell s m ([.ref (a 0)] : List Value).toArray below meth c H locs (0 + 1) (0 + 20) (MQ below (mQi D (mTY cI cC cT) out A (List.flatten [(FS cI cC cT a o_u)])) ([.ref (a 0)] : List Value).toArray s 1 20 A) (F0 m 408 ls [.int x_170, .int x_165]) := by
                      intro H locs hP hD hS ls hl
                      refine lv_icmp_ne (tgt := 415) hx hb dL_isWell_408 (by decide) (fun c_174 => ?_) (fun c_174 => ?_)
                      · have hf := ite_f hf c_174
                        refine lv_iconst (v := 0) hx hb dL_isWell_415 (by decide) ?_
                        cases hf
                        exact K_159 _ _ hP hD hS _ (lv_sub hl [0, 1, 2, 3, 4, 5, 6, 7, 8] rfl)
                      · have hf := ite_t hf c_174
                        refine lv_iconst (v := 1) hx hb dL_isWell_411 (by decide) ?_
                        refine lv_goto (tgt := 416) hx hb dL_isWell_412 (by decide) ?_
                        cases hf
                        exact K_159 _ _ hP hD hS _ (lv_sub hl [0, 1, 2, 3, 4, 5, 6, 7, 8] rfl)
                    have hf := q_172
                    refine lv_icmp_ne (tgt := 407) hx hb dL_isWell_400 (by decide) (fun c_173 => ?_) (fun c_173 => ?_)
                    · have hf := ite_f hf c_173
                      refine lv_iconst (v := 0) hx hb dL_isWell_407 (by decide) ?_
                      cases hf
                      exact K_171 _ _ hP hD hS _ (lv_sub hl [0, 1, 2, 3, 4, 5, 6, 7, 8] rfl)
                    · have hf := ite_t hf c_173
                      refine lv_iconst (v := 1) hx hb dL_isWell_403 (by decide) ?_
                      refine lv_goto (tgt := 408) hx hb dL_isWell_404 (by decide) ?_
                      cases hf
                      exact K_171 _ _ hP hD hS _ (lv_sub hl [0, 1, 2, 3, 4, 5, 6, 7, 8] rfl)
                  have hf := q_167
                  refine lv_icmp_ne (tgt := 394) hx hb dL_isWell_387 (by decide) (fun c_168 => ?_) (fun c_168 => ?_)
                  · have hf := ite_f hf c_168
                    refine lv_iconst (v := 0) hx hb dL_isWell_394 (by decide) ?_
                    cases hf
                    exact K_166 _ _ hP hD hS _ (lv_sub hl [0, 1, 2, 3, 4, 5, 6, 7, 8] rfl)
                  · have hf := ite_t hf c_168
                    refine lv_iconst (v := 1) hx hb dL_isWell_390 (by decide) ?_
                    refine lv_goto (tgt := 395) hx hb dL_isWell_391 (by decide) ?_
                    cases hf
                    exact K_166 _ _ hP hD hS _ (lv_sub hl [0, 1, 2, 3, 4, 5, 6, 7, 8] rfl)
              have hf := q_148
              refine lv_icmp_ne (tgt := 375) hx hb dL_isWell_355 (by decide) (fun c_149 => ?_) (fun c_149 => ?_)
              · have hf := ite_f hf c_149
                refine lv_iconst (v := 0) hx hb dL_isWell_375 (by decide) ?_
                cases hf
                exact K_147 _ _ hP hD hS _ (lv_sub hl [0, 1, 2, 3, 4, 5, 6, 7, 9] rfl)
              · have hf := ite_t hf c_149
                refine lv_iload_n hx hb dL_isWell_358 rfl (lv_at hl 1 rfl) ?_
                refine lv_aload_n hx hb dL_isWell_359 rfl (lv_at hl 0 rfl) ?_
                refine lv_aload_n hx hb dL_isWell_360 rfl (lv_at hl 0 rfl) ?_
                refine lv_iload hx hb dL_isWell_361 (lv_at hl 9 rfl) ?_
                refine lv_iconst (v := 0) hx hb dL_isWell_363 (by decide) ?_
                obtain ⟨⟨r_150, u_151⟩, q_152, hf⟩ := bnd hf
                refine mGoiS (segs := [(FS cI cC cT a u_143), (W_A cI cC cT g 20 hd_23)]) (wcs := [(FS cI cC cT a u_143)]) (w1s := [(FS cI cC cT a u_151)]) (w2s := [(FS cI cC cT a u_151), (W_A cI cC cT g 20 hd_23)]) flat1 flat1 (va_runV (As := [.int v13_136, .int 0]) (rest := [.ref (a 0), .int r_1, .int (hd_23 v13_136.toNatClampNeg)]) ⟨hx, hb, hml, hown, hts⟩ (c_Y5_row l D cI cC cT a u_143 H.size v13_136 0 r_150 u_151 q_152) (cwV 2 hts gL_isWell_X5_row rfl rfl rfl (by decide +kernel) ⟨Nat.le_of_ble_eq_true rfl, Nat.le_of_ble_eq_true rfl⟩) (mPreVS [(FS cI cC cT a u_143)] flat1 hP hD hK hN [0] rfl (by decide) (va_recv hK (sP hP 0 rfl) (ci := 5) (q0 := 0) rfl (FS0 cI cC cT a u_143))) rfl rfl hl.1 rfl (lv_room (Nat.le_of_ble_eq_true rfl)) dL_isWell_364 ⟨Nat.le_of_ble_eq_true rfl, Nat.le_of_ble_eq_true rfl⟩) hP hD hS hA [0] rfl rfl rfl rfl (fun H locs hP hD hS => ?_)
                refine lv_iconst (v := 1) hx hb dL_isWell_367 (by decide) ?_
                obtain ⟨⟨r_153, u_154⟩, q_155, hf⟩ := bnd hf
                refine mGoiS (segs := [(FS cI cC cT a u_151), (W_A cI cC cT g 20 hd_23)]) (wcs := [(FS cI cC cT a u_151)]) (w1s := [(FS cI cC cT a u_154)]) (w2s := [(FS cI cC cT a u_154), (W_A cI cC cT g 20 hd_23)]) flat1 flat1 (va_runV (As := [.int r_150, .int 1]) (rest := [.int r_1, .int (hd_23 v13_136.toNatClampNeg)]) ⟨hx, hb, hml, hown, hts⟩ (c_Y5_key l D cI cC cT a u_151 H.size r_150 1 r_153 u_154 q_155) (cwV 2 hts gL_isWell_X5_key rfl rfl rfl (by decide +kernel) ⟨Nat.le_of_ble_eq_true rfl, Nat.le_of_ble_eq_true rfl⟩) (mPreVS [(FS cI cC cT a u_151)] flat1 hP hD hK hN [0] rfl (by decide) (va_recv hK (sP hP 0 rfl) (ci := 5) (q0 := 0) rfl (FS0 cI cC cT a u_151))) rfl rfl hl.1 rfl (lv_room (Nat.le_of_ble_eq_true rfl)) dL_isWell_368 ⟨Nat.le_of_ble_eq_true rfl, Nat.le_of_ble_eq_true rfl⟩) hP hD hS hA [0] rfl rfl rfl rfl (fun H locs hP hD hS => ?_)
                obtain ⟨h_156, hf⟩ := grd hf
                refine lv_idiv hx hb dL_isWell_371 h_156 ?_
                refine lv_goto (tgt := 376) hx hb dL_isWell_372 (by decide) ?_
                cases hf
                exact K_147 _ _ hP hD hS _ (lv_sub hl [0, 1, 2, 3, 4, 5, 6, 7, 9] rfl)
      exact LP_138 _ _ _ _ _ hf _ _ hP hD hS _ (lv_sub hl [1, 2, 3, 4, 5, 6, 7, 8, 9, 0] rfl)
    have hf := q_25
    have LP_30 : ∀ (n_30 : Nat) (v12_26 : Int32) (v13_27 : Int32) (u_28 : SSt) (hd_29 : Nat → Int32), iter n_30 (b_L_isWell_2 r_1 r_9 r_12 r_15 r_18) ((v12_26, v13_27, u_28, hd_29)) = some ((x_21, u_22, hd_23)) → ∀ (H : Heap) (locs : List Loc), va_P D vwCl (List.flatten [(FS cI cC cT a u_28), (W_A cI cC cT g 20 hd_29)]) H → va_D A (List.flatten [(FS cI cC cT a u_28), (W_A cI cC cT g 20 hd_29)]) → va_S A s.heap H locs → ∀ (ls : Array Slot), lv_has ls 17 [(0, .ref (a 0)), (1, .int r_1), (2, .int r_5), (3, .ref g), (4, .int 1), (5, .int 0), (6, .int 0), (7, .int 0), (8, .int r_9), (9, .int r_12), (10, .int r_15), (11, .int r_18), (12, .int v12_26), (13, .int v13_27)] → W p l e rm_L_isWell s m ([.ref (a 0)] : List Value).toArray below meth c H locs (0 + 1) (0 + 20) (MQ below (mQi D (mTY cI cC cT) out A (List.flatten [(FS cI cC cT a o_u)])) ([.ref (a 0)] : List Value).toArray s 1 20 A) (F0 m 72 ls []) := by
      intro n_30
      induction n_30 with
      | zero => intro v12_26 v13_27 u_28 hd_29 hf; exact (iter_zero hf).elim
      | succ n_30 ih_30 =>
        intro v12_26 v13_27 u_28 hd_29 hf H locs hP hD hS ls hl
        obtain ⟨o_30, hf, ho_30⟩ := iter_succ hf
        dsimp only [b_L_isWell_2] at hf
        refine lv_iload hx hb dL_isWell_72 (lv_at hl 13 rfl) ?_
        refine lv_iload_n hx hb dL_isWell_74 rfl (lv_at hl 1 rfl) ?_
        refine lv_icmp_ge (tgt := 329) hx hb dL_isWell_75 (by decide) (fun c_31 => ?_) (fun c_31 => ?_)
        · have hf := ite_t hf c_31
          cases hf
          have hf := ho_30.2 _ rfl
          cases hf
          exact K_24 _ _ hP hD hS _ (lv_sub hl [0, 1, 2, 3, 4, 5, 6, 7, 12] rfl)
        · have hf := ite_f hf c_31
          refine lv_iload hx hb dL_isWell_78 (lv_at hl 12 rfl) ?_
          refine lv_if_eq (tgt := 329) hx hb dL_isWell_80 (by decide) (fun c_32 => ?_) (fun c_32 => ?_)
          · have hf := ite_t hf c_32
            cases hf
            have hf := ho_30.2 _ rfl
            cases hf
            exact K_24 _ _ hP hD hS _ (lv_sub hl [0, 1, 2, 3, 4, 5, 6, 7, 12] rfl)
          · have hf := ite_f hf c_32
            refine lv_iconst (v := 0) hx hb dL_isWell_83 (by decide) ?_
            refine lv_istore (lv' := [(14, .int 0), (0, .ref (a 0)), (1, .int r_1), (2, .int r_5), (3, .ref g), (4, .int 1), (5, .int 0), (6, .int 0), (7, .int 0), (8, .int r_9), (9, .int r_12), (10, .int r_15), (11, .int r_18), (12, .int v12_26), (13, .int v13_27)]) hx hb dL_isWell_84 hl (by decide) rfl (fun ls hl => ?_)
            refine lv_iconst (v := 0) hx hb dL_isWell_86 (by decide) ?_
            refine lv_istore (lv' := [(15, .int 0), (14, .int 0), (0, .ref (a 0)), (1, .int r_1), (2, .int r_5), (3, .ref g), (4, .int 1), (5, .int 0), (6, .int 0), (7, .int 0), (8, .int r_9), (9, .int r_12), (10, .int r_15), (11, .int r_18), (12, .int v12_26), (13, .int v13_27)]) hx hb dL_isWell_87 hl (by decide) rfl (fun ls hl => ?_)
            obtain ⟨⟨x_33, x_34, u_35, hd_36⟩, q_38, hf⟩ := bnd hf
            have K_37 : ∀ (H : Heap) (locs : List Loc), va_P D vwCl (List.flatten [(FS cI cC cT a u_35), (W_A cI cC cT g 20 hd_36)]) H → va_D A (List.flatten [(FS cI cC cT a u_35), (W_A cI cC cT g 20 hd_36)]) → va_S A s.heap H locs → ∀ (ls : Array Slot), lv_has ls 17 [(0, .ref (a 0)), (1, .int r_1), (2, .int r_5), (3, .ref g), (4, .int 1), (5, .int 0), (6, .int 0), (7, .int 0), (8, .int r_9), (9, .int r_12), (10, .int r_15), (11, .int r_18), (12, .int x_33), (13, .int v13_27), (14, .int x_34)] → W p l e rm_L_isWell s m ([.ref (a 0)] : List Value).toArray below meth c H locs (0 + 1) (0 + 20) (MQ below (mQi D (mTY cI cC cT) out A (List.flatten [(FS cI cC cT a o_u)])) ([.ref (a 0)] : List Value).toArray s 1 20 A) (F0 m 229 ls []) := by
              intro H locs hP hD hS ls hl
              refine lv_iload hx hb dL_isWell_229 (lv_at hl 12 rfl) ?_
              obtain ⟨x_93, q_95, hf⟩ := bnd hf
              have K_94 : ∀ (H : Heap) (locs : List Loc), va_P D vwCl (List.flatten [(FS cI cC cT a u_35), (W_A cI cC cT g 20 hd_36)]) H → va_D A (List.flatten [(FS cI cC cT a u_35), (W_A cI cC cT g 20 hd_36)]) → va_S A s.heap H locs → ∀ (ls : Array Slot), lv_has ls 17 [(0, .ref (a 0)), (1, .int r_1), (2, .int r_5), (3, .ref g), (4, .int 1), (5, .int 0), (6, .int 0), (7, .int 0), (8, .int r_9), (9, .int r_12), (10, .int r_15), (11, .int r_18), (13, .int v13_27)] → W p l e rm_L_isWell s m ([.ref (a 0)] : List Value).toArray below meth c H locs (0 + 1) (0 + 20) (MQ below (mQi D (mTY cI cC cT) out A (List.flatten [(FS cI cC cT a o_u)])) ([.ref (a 0)] : List Value).toArray s 1 20 A) (F0 m 321 ls [.int x_93]) := by
                intro H locs hP hD hS ls hl
                refine lv_istore (lv' := [(12, .int x_93), (0, .ref (a 0)), (1, .int r_1), (2, .int r_5), (3, .ref g), (4, .int 1), (5, .int 0), (6, .int 0), (7, .int 0), (8, .int r_9), (9, .int r_12), (10, .int r_15), (11, .int r_18), (13, .int v13_27)]) hx hb dL_isWell_321 hl (by decide) rfl (fun ls hl => ?_)
                refine lv_iinc (v := v13_27 + 1) (lv' := [(13, .int (v13_27 + 1)), (12, .int x_93), (0, .ref (a 0)), (1, .int r_1), (2, .int r_5), (3, .ref g), (4, .int 1), (5, .int 0), (6, .int 0), (7, .int 0), (8, .int r_9), (9, .int r_12), (10, .int r_15), (11, .int r_18)]) hx hb dL_isWell_323 hl (k := 13) rfl rfl (by decide) rfl (fun ls hl => ?_)
                refine lv_goto (tgt := 72) hx hb dL_isWell_326 (by decide) ?_
                cases hf
                have hf := ho_30.1 _ rfl
                exact ih_30 _ _ _ _ hf _ _ hP hD hS _ (lv_sub hl [2, 3, 4, 5, 6, 7, 8, 9, 10, 11, 12, 13, 1, 0] rfl)
              have hf := q_95
              refine lv_if_eq (tgt := 320) hx hb dL_isWell_231 (by decide) (fun c_96 => ?_) (fun c_96 => ?_)
              · have hf := ite_t hf c_96
                refine lv_iconst (v := 0) hx hb dL_isWell_320 (by decide) ?_
                cases hf
                exact K_94 _ _ hP hD hS _ (lv_sub hl [0, 1, 2, 3, 4, 5, 6, 7, 8, 9, 10, 11, 13] rfl)
              · have hf := ite_f hf c_96
                refine lv_iload hx hb dL_isWell_234 (lv_at hl 14 rfl) ?_
                refine lv_iload hx hb dL_isWell_236 (lv_at hl 8 rfl) ?_
                refine lv_icmp_lt (tgt := 320) hx hb dL_isWell_238 (by decide) (fun c_97 => ?_) (fun c_97 => ?_)
                · have hf := ite_t hf c_97
                  refine lv_iconst (v := 0) hx hb dL_isWell_320 (by decide) ?_
                  cases hf
                  exact K_94 _ _ hP hD hS _ (lv_sub hl [0, 1, 2, 3, 4, 5, 6, 7, 8, 9, 10, 11, 13] rfl)
                · have hf := ite_f hf c_97
                  refine lv_iload hx hb dL_isWell_241 (lv_at hl 14 rfl) ?_
                  refine lv_iload hx hb dL_isWell_243 (lv_at hl 9 rfl) ?_
                  refine lv_icmp_gt (tgt := 320) hx hb dL_isWell_245 (by decide) (fun c_98 => ?_) (fun c_98 => ?_)
                  · have hf := ite_t hf c_98
                    refine lv_iconst (v := 0) hx hb dL_isWell_320 (by decide) ?_
                    cases hf
                    exact K_94 _ _ hP hD hS _ (lv_sub hl [0, 1, 2, 3, 4, 5, 6, 7, 8, 9, 10, 11, 13] rfl)
                  · have hf := ite_f hf c_98
                    refine lv_iload hx hb dL_isWell_248 (lv_at hl 13 rfl) ?_
                    refine lv_iload hx hb dL_isWell_250 (lv_at hl 10 rfl) ?_
                    refine lv_icmp_gt (tgt := 282) hx hb dL_isWell_252 (by decide) (fun c_99 => ?_) (fun c_99 => ?_)
                    · have hf := ite_t hf c_99
                      refine lv_iload hx hb dL_isWell_282 (lv_at hl 13 rfl) ?_
                      refine lv_iload hx hb dL_isWell_284 (lv_at hl 11 rfl) ?_
                      refine lv_icmp_gt (tgt := 316) hx hb dL_isWell_286 (by decide) (fun c_100 => ?_) (fun c_100 => ?_)
                      · have hf := ite_t hf c_100
                        refine lv_iconst (v := 1) hx hb dL_isWell_316 (by decide) ?_
                        refine lv_goto (tgt := 321) hx hb dL_isWell_317 (by decide) ?_
                        cases hf
                        exact K_94 _ _ hP hD hS _ (lv_sub hl [0, 1, 2, 3, 4, 5, 6, 7, 8, 9, 10, 11, 13] rfl)
                      · have hf := ite_f hf c_100
                        refine lv_iload hx hb dL_isWell_289 (lv_at hl 14 rfl) ?_
                        refine lv_iload hx hb dL_isWell_291 (lv_at hl 9 rfl) ?_
                        obtain ⟨x_101, q_103, hf⟩ := bnd hf
                        have K_102 : ∀ (H : Heap) (locs : List Loc), va_P D vwCl (List.flatten [(FS cI cC cT a u_35), (W_A cI cC cT g 20 hd_36)]) H → va_D A (List.flatten [(FS cI cC cT a u_35), (W_A cI cC cT g 20 hd_36)]) → va_S A s.heap H locs → ∀ (ls : Array Slot), lv_has ls 17 [(0, .ref (a 0)), (1, .int r_1), (2, .int r_5), (3, .ref g), (4, .int 1), (5, .int 0), (6, .int 0), (7, .int 0), (8, .int r_9), (9, .int r_12), (10, .int r_15), (11, .int r_18), (13, .int v13_27)] → W p l e rm_L_isWell s m ([.ref (a 0)] : List Value).toArray below meth c H locs (0 + 1) (0 + 20) (MQ below (mQi D (mTY cI cC cT) out A (List.flatten [(FS cI cC cT a o_u)])) ([.ref (a 0)] : List Value).toArray s 1 20 A) (F0 m 301 ls [.int x_101]) := by
                          intro H locs hP hD hS ls hl
                          refine lv_iload hx hb dL_isWell_301 (lv_at hl 12 rfl) ?_
                          refine lv_iload hx hb dL_isWell_303 (lv_at hl 11 rfl) ?_
                          obtain ⟨x_105, q_107, hf⟩ := bnd hf
                          have K_106 : ∀ (H : Heap) (locs : List Loc), va_P D vwCl (List.flatten [(FS cI cC cT a u_35), (W_A cI cC cT g 20 hd_36)]) H → va_D A (List.flatten [(FS cI cC cT a u_35), (W_A cI cC cT g 20 hd_36)]) → va_S A s.heap H locs → ∀ (ls : Array Slot), lv_has ls 17 [(0, .ref (a 0)), (1, .int r_1), (2, .int r_5), (3, .ref g), (4, .int 1), (5, .int 0), (6, .int 0), (7, .int 0), (8, .int r_9), (9, .int r_12), (10, .int r_15), (11, .int r_18), (13, .int v13_27)] → W p l e rm_L_isWell s m ([.ref (a 0)] : List Value).toArray below meth c H locs (0 + 1) (0 + 20) (MQ below (mQi D (mTY cI cC cT) out A (List.flatten [(FS cI cC cT a o_u)])) ([.ref (a 0)] : List Value).toArray s 1 20 A) (F0 m 313 ls [.int x_105, .int x_101]) := by
                            intro H locs hP hD hS ls hl
                            refine lv_icmp_ne (tgt := 320) hx hb dL_isWell_313 (by decide) (fun c_109 => ?_) (fun c_109 => ?_)
                            · have hf := ite_f hf c_109
                              refine lv_iconst (v := 0) hx hb dL_isWell_320 (by decide) ?_
                              cases hf
                              exact K_94 _ _ hP hD hS _ (lv_sub hl [0, 1, 2, 3, 4, 5, 6, 7, 8, 9, 10, 11, 12] rfl)
                            · have hf := ite_t hf c_109
                              refine lv_iconst (v := 1) hx hb dL_isWell_316 (by decide) ?_
                              refine lv_goto (tgt := 321) hx hb dL_isWell_317 (by decide) ?_
                              cases hf
                              exact K_94 _ _ hP hD hS _ (lv_sub hl [0, 1, 2, 3, 4, 5, 6, 7, 8, 9, 10, 11, 12] rfl)
                          have hf := q_107
                          refine lv_icmp_ne (tgt := 312) hx hb dL_isWell_305 (by decide) (fun c_108 => ?_) (fun c_108 => ?_)
                          · have hf := ite_f hf c_108
                            refine lv_iconst (v := 0) hx hb dL_isWell_312 (by decide) ?_
                            cases hf
                            exact K_106 _ _ hP hD hS _ (lv_sub hl [0, 1, 2, 3, 4, 5, 6, 7, 8, 9, 10, 11, 12] rfl)
                          · have hf := ite_t hf c_108
                            refine lv_iconst (v := 1) hx hb dL_isWell_308 (by decide) ?_
                            refine lv_goto (tgt := 313) hx hb dL_isWell_309 (by decide) ?_
                            cases hf
                            exact K_106 _ _ hP hD hS _ (lv_sub hl [0, 1, 2, 3, 4, 5, 6, 7, 8, 9, 10, 11, 12] rfl)
                        have hf := q_103
                        refine lv_icmp_ne (tgt := 300) hx hb dL_isWell_293 (by decide) (fun c_104 => ?_) (fun c_104 => ?_)
                        · have hf := ite_f hf c_104
                          refine lv_iconst (v := 0) hx hb dL_isWell_300 (by decide) ?_
                          cases hf
                          exact K_102 _ _ hP hD hS _ (lv_sub hl [0, 1, 2, 3, 4, 5, 6, 7, 8, 9, 10, 11, 13] rfl)
                        · have hf := ite_t hf c_104
                          refine lv_iconst (v := 1) hx hb dL_isWell_296 (by decide) ?_
                          refine lv_goto (tgt := 301) hx hb dL_isWell_297 (by decide) ?_
                          cases hf
                          exact K_102 _ _ hP hD hS _ (lv_sub hl [0, 1, 2, 3, 4, 5, 6, 7, 8, 9, 10, 11, 13] rfl)
                    · have hf := ite_f hf c_99
                      refine lv_iload hx hb dL_isWell_255 (lv_at hl 14 rfl) ?_
                      refine lv_iload hx hb dL_isWell_257 (lv_at hl 8 rfl) ?_
                      obtain ⟨x_110, q_112, hf⟩ := bnd hf
                      have K_111 : ∀ (H : Heap) (locs : List Loc), va_P D vwCl (List.flatten [(FS cI cC cT a u_35), (W_A cI cC cT g 20 hd_36)]) H → va_D A (List.flatten [(FS cI cC cT a u_35), (W_A cI cC cT g 20 hd_36)]) → va_S A s.heap H locs → ∀ (ls : Array Slot), lv_has ls 17 [(0, .ref (a 0)), (1, .int r_1), (2, .int r_5), (3, .ref g), (4, .int 1), (5, .int 0), (6, .int 0), (7, .int 0), (8, .int r_9), (9, .int r_12), (10, .int r_15), (11, .int r_18), (13, .int v13_27), (14, .int x_34)] → W p l e rm_L_isWell s m ([.ref (a 0)] : List Value).toArray below meth c H locs (0 + 1) (0 + 20) (MQ below (mQi D (mTY cI cC cT) out A (List.flatten [(FS cI cC cT a o_u)])) ([.ref (a 0)] : List Value).toArray s 1 20 A) (F0 m 267 ls [.int x_110]) := by
                        intro H locs hP hD hS ls hl
                        refine lv_iload hx hb dL_isWell_267 (lv_at hl 12 rfl) ?_
                        refine lv_iload hx hb dL_isWell_269 (lv_at hl 10 rfl) ?_
                        obtain ⟨x_114, q_116, hf⟩ := bnd hf
                        have K_115 : ∀ (H : Heap) (locs : List Loc), va_P D vwCl (List.flatten [(FS cI cC cT a u_35), (W_A cI cC cT g 20 hd_36)]) H → va_D A (List.flatten [(FS cI cC cT a u_35), (W_A cI cC cT g 20 hd_36)]) → va_S A s.heap H locs → ∀ (ls : Array Slot), lv_has ls 17 [(0, .ref (a 0)), (1, .int r_1), (2, .int r_5), (3, .ref g), (4, .int 1), (5, .int 0), (6, .int 0), (7, .int 0), (8, .int r_9), (9, .int r_12), (10, .int r_15), (11, .int r_18), (13, .int v13_27), (14, .int x_34)] → W p l e rm_L_isWell s m ([.ref (a 0)] : List Value).toArray below meth c H locs (0 + 1) (0 + 20) (MQ below (mQi D (mTY cI cC cT) out A (List.flatten [(FS cI cC cT a o_u)])) ([.ref (a 0)] : List Value).toArray s 1 20 A) (F0 m 279 ls [.int x_114, .int x_110]) := by
                          intro H locs hP hD hS ls hl
                          refine lv_icmp_ne (tgt := 320) hx hb dL_isWell_279 (by decide) (fun c_118 => ?_) (fun c_118 => ?_)
                          · have hf := ite_f hf c_118
                            refine lv_iconst (v := 0) hx hb dL_isWell_320 (by decide) ?_
                            cases hf
                            exact K_94 _ _ hP hD hS _ (lv_sub hl [0, 1, 2, 3, 4, 5, 6, 7, 8, 9, 10, 11, 12] rfl)
                          · have hf := ite_t hf c_118
                            refine lv_iload hx hb dL_isWell_282 (lv_at hl 12 rfl) ?_
                            refine lv_iload hx hb dL_isWell_284 (lv_at hl 11 rfl) ?_
                            refine lv_icmp_gt (tgt := 316) hx hb dL_isWell_286 (by decide) (fun c_119 => ?_) (fun c_119 => ?_)
                            · have hf := ite_t hf c_119
                              refine lv_iconst (v := 1) hx hb dL_isWell_316 (by decide) ?_
                              refine lv_goto (tgt := 321) hx hb dL_isWell_317 (by decide) ?_
                              cases hf
                              exact K_94 _ _ hP hD hS _ (lv_sub hl [0, 1, 2, 3, 4, 5, 6, 7, 8, 9, 10, 11, 12] rfl)
                            · have hf := ite_f hf c_119
                              refine lv_iload hx hb dL_isWell_289 (lv_at hl 13 rfl) ?_
                              refine lv_iload hx hb dL_isWell_291 (lv_at hl 9 rfl) ?_
                              obtain ⟨x_120, q_122, hf⟩ := bnd hf
                              have K_121 : ∀ (H : Heap) (locs : List Loc), va_P D vwCl (List.flatten [(FS cI cC cT a u_35), (W_A cI cC cT g 20 hd_36)]) H → va_D A (List.flatten [(FS cI cC cT a u_35), (W_A cI cC cT g 20 hd_36)]) → va_S A s.heap H locs → ∀ (ls : Array Slot), lv_has ls 17 [(0, .ref (a 0)), (1, .int r_1), (2, .int r_5), (3, .ref g), (4, .int 1), (5, .int 0), (6, .int 0), (7, .int 0), (8, .int r_9), (9, .int r_12), (10, .int r_15), (11, .int r_18), (13, .int v13_27)] → W p l e rm_L_isWell s m ([.ref (a 0)] : List Value).toArray below meth c H locs (0 + 1) (0 + 20) (MQ below (mQi D (mTY cI cC cT) out A (List.flatten [(FS cI cC cT a o_u)])) ([.ref (a 0)] : List Value).toArray s 1 20 A) (F0 m 301 ls [.int x_120]) := by
                                intro H locs hP hD hS ls hl
                                refine lv_iload hx hb dL_isWell_301 (lv_at hl 12 rfl) ?_
                                refine lv_iload hx hb dL_isWell_303 (lv_at hl 11 rfl) ?_
                                obtain ⟨x_124, q_126, hf⟩ := bnd hf
                                have K_125 : ∀ (H : Heap) (locs : List Loc), va_P D vwCl (List.flatten [(FS cI cC cT a u_35), (W_A cI cC cT g 20 hd_36)]) H → va_D A (List.flatten [(FS cI cC cT a u_35), (W_A cI cC cT g 20 hd_36)]) → va_S A s.heap H locs → ∀ (ls : Array Slot), lv_has ls 17 [(0, .ref (a 0)), (1, .int r_1), (2, .int r_5), (3, .ref g), (4, .int 1), (5, .int 0), (6, .int 0), (7, .int 0), (8, .int r_9), (9, .int r_12), (10, .int r_15), (11, .int r_18), (13, .int v13_27)] → W p l e rm_L_isWell s m ([.ref (a 0)] : List Value).toArray below meth c H locs (0 + 1) (0 + 20) (MQ below (mQi D (mTY cI cC cT) out A (List.flatten [(FS cI cC cT a o_u)])) ([.ref (a 0)] : List Value).toArray s 1 20 A) (F0 m 313 ls [.int x_124, .int x_120]) := by
                                  intro H locs hP hD hS ls hl
                                  refine lv_icmp_ne (tgt := 320) hx hb dL_isWell_313 (by decide) (fun c_128 => ?_) (fun c_128 => ?_)
                                  · have hf := ite_f hf c_128
                                    refine lv_iconst (v := 0) hx hb dL_isWell_320 (by decide) ?_
                                    cases hf
                                    exact K_94 _ _ hP hD hS _ (lv_sub hl [0, 1, 2, 3, 4, 5, 6, 7, 8, 9, 10, 11, 12] rfl)
                                  · have hf := ite_t hf c_128
                                    refine lv_iconst (v := 1) hx hb dL_isWell_316 (by decide) ?_
                                    refine lv_goto (tgt := 321) hx hb dL_isWell_317 (by decide) ?_
                                    cases hf
                                    exact K_94 _ _ hP hD hS _ (lv_sub hl [0, 1, 2, 3, 4, 5, 6, 7, 8, 9, 10, 11, 12] rfl)
                                have hf := q_126
                                refine lv_icmp_ne (tgt := 312) hx hb dL_isWell_305 (by decide) (fun c_127 => ?_) (fun c_127 => ?_)
                                · have hf := ite_f hf c_127
                                  refine lv_iconst (v := 0) hx hb dL_isWell_312 (by decide) ?_
                                  cases hf
                                  exact K_125 _ _ hP hD hS _ (lv_sub hl [0, 1, 2, 3, 4, 5, 6, 7, 8, 9, 10, 11, 12] rfl)
                                · have hf := ite_t hf c_127
                                  refine lv_iconst (v := 1) hx hb dL_isWell_308 (by decide) ?_
                                  refine lv_goto (tgt := 313) hx hb dL_isWell_309 (by decide) ?_
                                  cases hf
                                  exact K_125 _ _ hP hD hS _ (lv_sub hl [0, 1, 2, 3, 4, 5, 6, 7, 8, 9, 10, 11, 12] rfl)
                              have hf := q_122
                              refine lv_icmp_ne (tgt := 300) hx hb dL_isWell_293 (by decide) (fun c_123 => ?_) (fun c_123 => ?_)
                              · have hf := ite_f hf c_123
                                refine lv_iconst (v := 0) hx hb dL_isWell_300 (by decide) ?_
                                cases hf
                                exact K_121 _ _ hP hD hS _ (lv_sub hl [0, 1, 2, 3, 4, 5, 6, 7, 8, 9, 10, 11, 12] rfl)
                              · have hf := ite_t hf c_123
                                refine lv_iconst (v := 1) hx hb dL_isWell_296 (by decide) ?_
                                refine lv_goto (tgt := 301) hx hb dL_isWell_297 (by decide) ?_
                                cases hf
                                exact K_121 _ _ hP hD hS _ (lv_sub hl [0, 1, 2, 3, 4, 5, 6, 7, 8, 9, 10, 11, 12] rfl)
                        have hf := q_116
                        refine lv_icmp_ne (tgt := 278) hx hb dL_isWell_271 (by decide) (fun c_117 => ?_) (fun c_117 => ?_)
                        · have hf := ite_f hf c_117
                          refine lv_iconst (v := 0) hx hb dL_isWell_278 (by decide) ?_
                          cases hf
                          exact K_115 _ _ hP hD hS _ (lv_sub hl [0, 1, 2, 3, 4, 5, 6, 7, 8, 9, 10, 11, 12, 13] rfl)
                        · have hf := ite_t hf c_117
                          refine lv_iconst (v := 1) hx hb dL_isWell_274 (by decide) ?_
                          refine lv_goto (tgt := 279) hx hb dL_isWell_275 (by decide) ?_
                          cases hf
                          exact K_115 _ _ hP hD hS _ (lv_sub hl [0, 1, 2, 3, 4, 5, 6, 7, 8, 9, 10, 11, 12, 13] rfl)
                      have hf := q_112
                      refine lv_icmp_ne (tgt := 266) hx hb dL_isWell_259 (by decide) (fun c_113 => ?_) (fun c_113 => ?_)
                      · have hf := ite_f hf c_113
                        refine lv_iconst (v := 0) hx hb dL_isWell_266 (by decide) ?_
                        cases hf
                        exact K_111 _ _ hP hD hS _ (lv_sub hl [0, 1, 2, 3, 4, 5, 6, 7, 8, 9, 10, 11, 13, 14] rfl)
                      · have hf := ite_t hf c_113
                        refine lv_iconst (v := 1) hx hb dL_isWell_262 (by decide) ?_
                        refine lv_goto (tgt := 267) hx hb dL_isWell_263 (by decide) ?_
                        cases hf
                        exact K_111 _ _ hP hD hS _ (lv_sub hl [0, 1, 2, 3, 4, 5, 6, 7, 8, 9, 10, 11, 13, 14] rfl)
            have hf := q_38
            have LP_44 : ∀ (n_44 : Nat) (v12_39 : Int32) (v14_40 : Int32) (v15_41 : Int32) (u_42 : SSt) (hd_43 : Nat → Int32), iter n_44 (b_L_isWell_1 v13_27) ((v12_39, v14_40, v15_41, u_42, hd_43)) = some ((x_33, x_34, u_35, hd_36)) → ∀ (H : Heap) (locs : List Loc), va_P D vwCl (List.flatten [(FS cI cC cT a u_42), (W_A cI cC cT g 20 hd_43)]) H → va_D A (List.flatten [(FS cI cC cT a u_42), (W_A cI cC cT g 20 hd_43)]) → va_S A s.heap H locs → ∀ (ls : Array Slot), lv_has ls 17 [(0, .ref (a 0)), (1, .int r_1), (2, .int r_5), (3, .ref g), (4, .int 1), (5, .int 0), (6, .int 0), (7, .int 0), (8, .int r_9), (9, .int r_12), (10, .int r_15), (11, .int r_18), (12, .int v12_39), (13, .int v13_27), (14, .int v14_40), (15, .int v15_41)] → W p l e rm_L_isWell s m ([.ref (a 0)] : List Value).toArray below meth c H locs (0 + 1) (0 + 20) (MQ below (mQi D (mTY cI cC cT) out A (List.flatten [(FS cI cC cT a o_u)])) ([.ref (a 0)] : List Value).toArray s 1 20 A) (F0 m 89 ls []) := by
              intro n_44
              induction n_44 with
              | zero => intro v12_39 v14_40 v15_41 u_42 hd_43 hf; exact (iter_zero hf).elim
              | succ n_44 ih_44 =>
                intro v12_39 v14_40 v15_41 u_42 hd_43 hf H locs hP hD hS ls hl
                obtain ⟨o_44, hf, ho_44⟩ := iter_succ hf
                dsimp only [b_L_isWell_1] at hf
                refine lv_iload hx hb dL_isWell_89 (lv_at hl 15 rfl) ?_
                refine lv_bipush (v := 10) hx hb dL_isWell_91 (by decide) ?_
                refine lv_icmp_ge (tgt := 229) hx hb dL_isWell_93 (by decide) (fun c_45 => ?_) (fun c_45 => ?_)
                · have hf := ite_t hf c_45
                  cases hf
                  have hf := ho_44.2 _ rfl
                  cases hf
                  exact K_37 _ _ hP hD hS _ (lv_sub hl [0, 1, 2, 3, 4, 5, 6, 7, 8, 9, 10, 11, 12, 13, 14] rfl)
                · have hf := ite_f hf c_45
                  refine lv_iload hx hb dL_isWell_96 (lv_at hl 12 rfl) ?_
                  refine lv_if_eq (tgt := 229) hx hb dL_isWell_98 (by decide) (fun c_46 => ?_) (fun c_46 => ?_)
                  · have hf := ite_t hf c_46
                    cases hf
                    have hf := ho_44.2 _ rfl
                    cases hf
                    exact K_37 _ _ hP hD hS _ (lv_sub hl [0, 1, 2, 3, 4, 5, 6, 7, 8, 9, 10, 11, 12, 13, 14] rfl)
                  · have hf := ite_f hf c_46
                    refine lv_aload_n hx hb dL_isWell_101 rfl (lv_at hl 0 rfl) ?_
                    refine lv_iload hx hb dL_isWell_102 (lv_at hl 13 rfl) ?_
                    refine lv_iload hx hb dL_isWell_104 (lv_at hl 15 rfl) ?_
                    obtain ⟨⟨r_47, u_48⟩, q_49, hf⟩ := bnd hf
                    refine mGoiS (segs := [(FS cI cC cT a u_42), (W_A cI cC cT g 20 hd_43)]) (wcs := [(FS cI cC cT a u_42)]) (w1s := [(FS cI cC cT a u_48)]) (w2s := [(FS cI cC cT a u_48), (W_A cI cC cT g 20 hd_43)]) flat1 flat1 (va_runV (As := [.int v13_27, .int v15_41]) (rest := []) ⟨hx, hb, hml, hown, hts⟩ (c_Y5_kept l D cI cC cT a u_42 H.size v13_27 v15_41 r_47 u_48 q_49) (cwV 2 hts gL_isWell_X5_kept rfl rfl rfl (by decide +kernel) ⟨Nat.le_of_ble_eq_true rfl, Nat.le_of_ble_eq_true rfl⟩) (mPreVS [(FS cI cC cT a u_42)] flat1 hP hD hK hN [0] rfl (by decide) (va_recv hK (sP hP 0 rfl) (ci := 5) (q0 := 0) rfl (FS0 cI cC cT a u_42))) rfl rfl hl.1 rfl (lv_room (Nat.le_of_ble_eq_true rfl)) dL_isWell_106 ⟨Nat.le_of_ble_eq_true rfl, Nat.le_of_ble_eq_true rfl⟩) hP hD hS hA [0] rfl rfl rfl rfl (fun H locs hP hD hS => ?_)
                    refine lv_istore (lv' := [(16, .int r_47), (0, .ref (a 0)), (1, .int r_1), (2, .int r_5), (3, .ref g), (4, .int 1), (5, .int 0), (6, .int 0), (7, .int 0), (8, .int r_9), (9, .int r_12), (10, .int r_15), (11, .int r_18), (12, .int v12_39), (13, .int v13_27), (14, .int v14_40), (15, .int v15_41)]) hx hb dL_isWell_109 hl (by decide) rfl (fun ls hl => ?_)
                    refine lv_iload hx hb dL_isWell_111 (lv_at hl 0 rfl) ?_
                    refine lv_bipush (v := -5) hx hb dL_isWell_113 (by decide) ?_
                    obtain ⟨x_50, q_52, hf⟩ := bnd hf
                    have K_51 : ∀ (H : Heap) (locs : List Loc), va_P D vwCl (List.flatten [(FS cI cC cT a u_48), (W_A cI cC cT g 20 hd_43)]) H → va_D A (List.flatten [(FS cI cC cT a u_48), (W_A cI cC cT g 20 hd_43)]) → va_S A s.heap H locs → ∀ (ls : Array Slot), lv_has ls 17 [(0, .ref (a 0)), (1, .int r_1), (2, .int r_5), (3, .ref g), (4, .int 1), (5, .int 0), (6, .int 0), (7, .int 0), (8, .int r_9), (9, .int r_12), (10, .int r_15), (11, .int r_18), (13, .int v13_27), (14, .int v14_40), (15, .int v15_41), (16, .int r_47)] → W p l e rm_L_isWell s m ([.ref (a 0)] : List Value).toArray below meth c H locs (0 + 1) (0 + 20) (MQ below (mQi D (mTY cI cC cT) out A (List.flatten [(FS cI cC cT a o_u)])) ([.ref (a 0)] : List Value).toArray s 1 20 A) (F0 m 123 ls [.int x_50]) := by
                      intro H locs hP hD hS ls hl
                      refine lv_aload_n hx hb dL_isWell_123 rfl (lv_at hl 0 rfl) ?_
                      refine lv_iload hx hb dL_isWell_124 (lv_at hl 14 rfl) ?_
                      refine lv_iconst (v := 0) hx hb dL_isWell_126 (by decide) ?_
                      obtain ⟨⟨r_54, u_55⟩, q_56, hf⟩ := bnd hf
                      refine mGoiS (segs := [(FS cI cC cT a u_48), (W_A cI cC cT g 20 hd_43)]) (wcs := [(FS cI cC cT a u_48)]) (w1s := [(FS cI cC cT a u_55)]) (w2s := [(FS cI cC cT a u_55), (W_A cI cC cT g 20 hd_43)]) flat1 flat1 (va_runV (As := [.int v15_41, .int 0]) (rest := [.int x_50]) ⟨hx, hb, hml, hown, hts⟩ (c_Y5_key l D cI cC cT a u_48 H.size v15_41 0 r_54 u_55 q_56) (cwV 2 hts gL_isWell_X5_key rfl rfl rfl (by decide +kernel) ⟨Nat.le_of_ble_eq_true rfl, Nat.le_of_ble_eq_true rfl⟩) (mPreVS [(FS cI cC cT a u_48)] flat1 hP hD hK hN [0] rfl (by decide) (va_recv hK (sP hP 0 rfl) (ci := 5) (q0 := 0) rfl (FS0 cI cC cT a u_48))) rfl rfl hl.1 rfl (lv_room (Nat.le_of_ble_eq_true rfl)) dL_isWell_127 ⟨Nat.le_of_ble_eq_true rfl, Nat.le_of_ble_eq_true rfl⟩) hP hD hS hA [0] rfl rfl rfl rfl (fun H locs hP hD hS => ?_)
                      obtain ⟨x_57, q_59, hf⟩ := bnd hf
                      have K_58 : ∀ (H : Heap) (locs : List Loc), va_P D vwCl (List.flatten [(FS cI cC cT a u_55), (W_A cI cC cT g 20 hd_43)]) H → va_D A (List.flatten [(FS cI cC cT a u_55), (W_A cI cC cT g 20 hd_43)]) → va_S A s.heap H locs → ∀ (ls : Array Slot), lv_has ls 17 [(0, .ref (a 0)), (1, .int r_1), (2, .int r_5), (3, .ref g), (4, .int 1), (5, .int 0), (6, .int 0), (7, .int 0), (8, .int r_9), (9, .int r_12), (10, .int r_15), (11, .int r_18), (13, .int v13_27), (14, .int v14_40), (15, .int v15_41), (16, .int r_47)] → W p l e rm_L_isWell s m ([.ref (a 0)] : List Value).toArray below meth c H locs (0 + 1) (0 + 20) (MQ below (mQi D (mTY cI cC cT) out A (List.flatten [(FS cI cC cT a o_u)])) ([.ref (a 0)] : List Value).toArray s 1 20 A) (F0 m 138 ls [.int x_57, .int x_50]) := by
                        intro H locs hP hD hS ls hl
                        obtain ⟨⟨x_61, u_62⟩, q_64, hf⟩ := bnd hf
                        have K_63 : ∀ (H : Heap) (locs : List Loc), va_P D vwCl (List.flatten [(FS cI cC cT a u_62), (W_A cI cC cT g 20 hd_43)]) H → va_D A (List.flatten [(FS cI cC cT a u_62), (W_A cI cC cT g 20 hd_43)]) → va_S A s.heap H locs → ∀ (ls : Array Slot), lv_has ls 17 [(0, .ref (a 0)), (1, .int r_1), (2, .int r_5), (3, .ref g), (4, .int 1), (5, .int 0), (6, .int 0), (7, .int 0), (8, .int r_9), (9, .int r_12), (10, .int r_15), (11, .int r_18), (13, .int v13_27), (14, .int v14_40), (15, .int v15_41), (16, .int r_47)] → W p l e rm_L_isWell s m ([.ref (a 0)] : List Value).toArray below meth c H locs (0 + 1) (0 + 20) (MQ below (mQi D (mTY cI cC cT) out A (List.flatten [(FS cI cC cT a o_u)])) ([.ref (a 0)] : List Value).toArray s 1 20 A) (F0 m 174 ls [.int x_61]) := by
                          intro H locs hP hD hS ls hl
                          refine lv_istore (lv' := [(12, .int x_61), (0, .ref (a 0)), (1, .int r_1), (2, .int r_5), (3, .ref g), (4, .int 1), (5, .int 0), (6, .int 0), (7, .int 0), (8, .int r_9), (9, .int r_12), (10, .int r_15), (11, .int r_18), (13, .int v13_27), (14, .int v14_40), (15, .int v15_41), (16, .int r_47)]) hx hb dL_isWell_174 hl (by decide) rfl (fun ls hl => ?_)
                          refine lv_aload_n hx hb dL_isWell_176 rfl (lv_at hl 4 rfl) ?_
                          refine lv_iload hx hb dL_isWell_177 (lv_at hl 16 rfl) ?_
                          obtain ⟨x_75, q_77, hf⟩ := bnd hf
                          have K_76 : ∀ (H : Heap) (locs : List Loc), va_P D vwCl (List.flatten [(FS cI cC cT a u_62), (W_A cI cC cT g 20 hd_43)]) H → va_D A (List.flatten [(FS cI cC cT a u_62), (W_A cI cC cT g 20 hd_43)]) → va_S A s.heap H locs → ∀ (ls : Array Slot), lv_has ls 17 [(0, .ref (a 0)), (1, .int r_1), (2, .int r_5), (3, .ref g), (4, .int 1), (5, .int 0), (6, .int 0), (7, .int 0), (8, .int r_9), (9, .int r_12), (10, .int r_15), (11, .int r_18), (12, .int x_61), (13, .int v13_27), (14, .int v14_40), (15, .int v15_41), (16, .int r_47)] → W p l e rm_L_isWell s m ([.ref (a 0)] : List Value).toArray below meth c H locs (0 + 1) (0 + 20) (MQ below (mQi D (mTY cI cC cT) out A (List.flatten [(FS cI cC cT a o_u)])) ([.ref (a 0)] : List Value).toArray s 1 20 A) (F0 m 188 ls [.int x_75, .ref g]) := by
                            intro H locs hP hD hS ls hl
                            refine lv_dup2_11 hx hb dL_isWell_188 rfl rfl ?_
                            obtain ⟨h_79, hf⟩ := grd hf
                            refine va_iald hx hb hK hP 46 0 rfl rfl h_79 dL_isWell_189 ?_
                            refine lv_iload hx hb dL_isWell_190 (lv_at hl 16 rfl) ?_
                            obtain ⟨x_80, q_82, hf⟩ := bnd hf
                            have K_81 : ∀ (H : Heap) (locs : List Loc), va_P D vwCl (List.flatten [(FS cI cC cT a u_62), (W_A cI cC cT g 20 hd_43)]) H → va_D A (List.flatten [(FS cI cC cT a u_62), (W_A cI cC cT g 20 hd_43)]) → va_S A s.heap H locs → ∀ (ls : Array Slot), lv_has ls 17 [(0, .ref (a 0)), (1, .int r_1), (2, .int r_5), (3, .ref g), (4, .int 1), (5, .int 0), (6, .int 0), (7, .int 0), (8, .int r_9), (9, .int r_12), (10, .int r_15), (11, .int r_18), (12, .int x_61), (13, .int v13_27), (14, .int v14_40), (15, .int v15_41), (16, .int r_47)] → W p l e rm_L_isWell s m ([.ref (a 0)] : List Value).toArray below meth c H locs (0 + 1) (0 + 20) (MQ below (mQi D (mTY cI cC cT) out A (List.flatten [(FS cI cC cT a o_u)])) ([.ref (a 0)] : List Value).toArray s 1 20 A) (F0 m 200 ls [.int x_80, .int (hd_43 x_75.toNatClampNeg), .int x_75, .ref g]) := by
                              intro H locs hP hD hS ls hl
                              refine lv_iadd hx hb dL_isWell_200 ?_
                              obtain ⟨h_84, hf⟩ := grd hf
                              refine va_iast hx hb hK hP hD hS 46 0 rfl rfl h_84 dL_isWell_201 (fun H locs hP hD hS => ?_)
                              have hP : va_P D vwCl (List.flatten [(FS cI cC cT a u_62), (W_A cI cC cT g 20 (upd hd_43 x_75.toNatClampNeg ((hd_43 x_75.toNatClampNeg) + x_80)))]) H := hP
                              have hD : va_D A (List.flatten [(FS cI cC cT a u_62), (W_A cI cC cT g 20 (upd hd_43 x_75.toNatClampNeg ((hd_43 x_75.toNatClampNeg) + x_80)))]) := hD
                              refine lv_iload hx hb dL_isWell_202 (lv_at hl 14 rfl) ?_
                              refine lv_iload hx hb dL_isWell_204 (lv_at hl 16 rfl) ?_
                              obtain ⟨⟨x_85, u_86⟩, q_88, hf⟩ := bnd hf
                              have K_87 : ∀ (H : Heap) (locs : List Loc), va_P D vwCl (List.flatten [(FS cI cC cT a u_86), (W_A cI cC cT g 20 (upd hd_43 x_75.toNatClampNeg ((hd_43 x_75.toNatClampNeg) + x_80)))]) H → va_D A (List.flatten [(FS cI cC cT a u_86), (W_A cI cC cT g 20 (upd hd_43 x_75.toNatClampNeg ((hd_43 x_75.toNatClampNeg) + x_80)))]) → va_S A s.heap H locs → ∀ (ls : Array Slot), lv_has ls 17 [(0, .ref (a 0)), (1, .int r_1), (2, .int r_5), (3, .ref g), (4, .int 1), (5, .int 0), (6, .int 0), (7, .int 0), (8, .int r_9), (9, .int r_12), (10, .int r_15), (11, .int r_18), (12, .int x_61), (13, .int v13_27), (15, .int v15_41)] → W p l e rm_L_isWell s m ([.ref (a 0)] : List Value).toArray below meth c H locs (0 + 1) (0 + 20) (MQ below (mQi D (mTY cI cC cT) out A (List.flatten [(FS cI cC cT a o_u)])) ([.ref (a 0)] : List Value).toArray s 1 20 A) (F0 m 220 ls [.int x_85, .int v14_40]) := by
                                intro H locs hP hD hS ls hl
                                refine lv_iadd hx hb dL_isWell_220 ?_
                                refine lv_istore (lv' := [(14, .int (v14_40 + x_85)), (0, .ref (a 0)), (1, .int r_1), (2, .int r_5), (3, .ref g), (4, .int 1), (5, .int 0), (6, .int 0), (7, .int 0), (8, .int r_9), (9, .int r_12), (10, .int r_15), (11, .int r_18), (12, .int x_61), (13, .int v13_27), (15, .int v15_41)]) hx hb dL_isWell_221 hl (by decide) rfl (fun ls hl => ?_)
                                refine lv_iinc (v := v15_41 + 1) (lv' := [(15, .int (v15_41 + 1)), (14, .int (v14_40 + x_85)), (0, .ref (a 0)), (1, .int r_1), (2, .int r_5), (3, .ref g), (4, .int 1), (5, .int 0), (6, .int 0), (7, .int 0), (8, .int r_9), (9, .int r_12), (10, .int r_15), (11, .int r_18), (12, .int x_61), (13, .int v13_27)]) hx hb dL_isWell_223 hl (k := 15) rfl rfl (by decide) rfl (fun ls hl => ?_)
                                refine lv_goto (tgt := 89) hx hb dL_isWell_226 (by decide) ?_
                                cases hf
                                have hf := ho_44.1 _ rfl
                                exact ih_44 _ _ _ _ _ hf _ _ hP hD hS _ (lv_sub hl [2, 3, 4, 5, 6, 7, 8, 9, 10, 11, 12, 13, 14, 15, 1, 0] rfl)
                              have hf := q_88
                              refine lv_if_ge (tgt := 213) hx hb dL_isWell_206 (by decide) (fun c_89 => ?_) (fun c_89 => ?_)
                              · have hf := ite_t hf c_89
                                refine lv_aload_n hx hb dL_isWell_213 rfl (lv_at hl 0 rfl) ?_
                                refine lv_iload hx hb dL_isWell_214 (lv_at hl 16 rfl) ?_
                                refine lv_iconst (v := 2) hx hb dL_isWell_216 (by decide) ?_
                                obtain ⟨⟨r_90, u_91⟩, q_92, hf⟩ := bnd hf
                                refine mGoiS (segs := [(FS cI cC cT a u_62), (W_A cI cC cT g 20 (upd hd_43 x_75.toNatClampNeg ((hd_43 x_75.toNatClampNeg) + x_80)))]) (wcs := [(FS cI cC cT a u_62)]) (w1s := [(FS cI cC cT a u_91)]) (w2s := [(FS cI cC cT a u_91), (W_A cI cC cT g 20 (upd hd_43 x_75.toNatClampNeg ((hd_43 x_75.toNatClampNeg) + x_80)))]) flat1 flat1 (va_runV (As := [.int r_47, .int 2]) (rest := [.int v14_40]) ⟨hx, hb, hml, hown, hts⟩ (c_Y5_row l D cI cC cT a u_62 H.size r_47 2 r_90 u_91 q_92) (cwV 2 hts gL_isWell_X5_row rfl rfl rfl (by decide +kernel) ⟨Nat.le_of_ble_eq_true rfl, Nat.le_of_ble_eq_true rfl⟩) (mPreVS [(FS cI cC cT a u_62)] flat1 hP hD hK hN [0] rfl (by decide) (va_recv hK (sP hP 0 rfl) (ci := 5) (q0 := 0) rfl (FS0 cI cC cT a u_62))) rfl rfl hl.1 rfl (lv_room (Nat.le_of_ble_eq_true rfl)) dL_isWell_217 ⟨Nat.le_of_ble_eq_true rfl, Nat.le_of_ble_eq_true rfl⟩) hP hD hS hA [0] rfl rfl rfl rfl (fun H locs hP hD hS => ?_)
                                cases hf
                                exact K_87 _ _ hP hD hS _ (lv_sub hl [0, 1, 2, 3, 4, 5, 6, 7, 8, 9, 10, 11, 12, 13, 15] rfl)
                              · have hf := ite_f hf c_89
                                refine lv_iconst (v := 0) hx hb dL_isWell_209 (by decide) ?_
                                refine lv_goto (tgt := 220) hx hb dL_isWell_210 (by decide) ?_
                                cases hf
                                exact K_87 _ _ hP hD hS _ (lv_sub hl [0, 1, 2, 3, 4, 5, 6, 7, 8, 9, 10, 11, 12, 13, 15] rfl)
                            have hf := q_82
                            refine lv_if_ge (tgt := 199) hx hb dL_isWell_192 (by decide) (fun c_83 => ?_) (fun c_83 => ?_)
                            · have hf := ite_t hf c_83
                              refine lv_iconst (v := 1) hx hb dL_isWell_199 (by decide) ?_
                              cases hf
                              exact K_81 _ _ hP hD hS _ (lv_sub hl [0, 1, 2, 3, 4, 5, 6, 7, 8, 9, 10, 11, 12, 13, 14, 15, 16] rfl)
                            · have hf := ite_f hf c_83
                              refine lv_iconst (v := 0) hx hb dL_isWell_195 (by decide) ?_
                              refine lv_goto (tgt := 200) hx hb dL_isWell_196 (by decide) ?_
                              cases hf
                              exact K_81 _ _ hP hD hS _ (lv_sub hl [0, 1, 2, 3, 4, 5, 6, 7, 8, 9, 10, 11, 12, 13, 14, 15, 16] rfl)
                          have hf := q_77
                          refine lv_if_ge (tgt := 186) hx hb dL_isWell_179 (by decide) (fun c_78 => ?_) (fun c_78 => ?_)
                          · have hf := ite_t hf c_78
                            refine lv_iload hx hb dL_isWell_186 (lv_at hl 16 rfl) ?_
                            cases hf
                            exact K_76 _ _ hP hD hS _ (lv_sub hl [1, 2, 3, 4, 5, 6, 7, 8, 9, 10, 11, 12, 0, 13, 14, 15, 16] rfl)
                          · have hf := ite_f hf c_78
                            refine lv_iconst (v := 0) hx hb dL_isWell_182 (by decide) ?_
                            refine lv_goto (tgt := 188) hx hb dL_isWell_183 (by decide) ?_
                            cases hf
                            exact K_76 _ _ hP hD hS _ (lv_sub hl [1, 2, 3, 4, 5, 6, 7, 8, 9, 10, 11, 12, 0, 13, 14, 15, 16] rfl)
                        have hf := q_64
                        refine lv_icmp_ne (tgt := 173) hx hb dL_isWell_138 (by decide) (fun c_65 => ?_) (fun c_65 => ?_)
                        · have hf := ite_f hf c_65
                          refine lv_iconst (v := 0) hx hb dL_isWell_173 (by decide) ?_
                          cases hf
                          exact K_63 _ _ hP hD hS _ (lv_sub hl [0, 1, 2, 3, 4, 5, 6, 7, 8, 9, 10, 11, 12, 13, 14, 15] rfl)
                        · have hf := ite_t hf c_65
                          refine lv_iload hx hb dL_isWell_141 (lv_at hl 15 rfl) ?_
                          refine lv_if_lt (tgt := 169) hx hb dL_isWell_143 (by decide) (fun c_66 => ?_) (fun c_66 => ?_)
                          · have hf := ite_t hf c_66
                            refine lv_iconst (v := 1) hx hb dL_isWell_169 (by decide) ?_
                            refine lv_goto (tgt := 174) hx hb dL_isWell_170 (by decide) ?_
                            cases hf
                            exact K_63 _ _ hP hD hS _ (lv_sub hl [0, 1, 2, 3, 4, 5, 6, 7, 8, 9, 10, 11, 12, 13, 14, 15] rfl)
                          · have hf := ite_f hf c_66
                            refine lv_aload_n hx hb dL_isWell_146 rfl (lv_at hl 0 rfl) ?_
                            refine lv_iload hx hb dL_isWell_147 (lv_at hl 15 rfl) ?_
                            refine lv_iconst (v := 0) hx hb dL_isWell_149 (by decide) ?_
                            obtain ⟨⟨r_67, u_68⟩, q_69, hf⟩ := bnd hf
                            refine mGoiS (segs := [(FS cI cC cT a u_55), (W_A cI cC cT g 20 hd_43)]) (wcs := [(FS cI cC cT a u_55)]) (w1s := [(FS cI cC cT a u_68)]) (w2s := [(FS cI cC cT a u_68), (W_A cI cC cT g 20 hd_43)]) flat1 flat1 (va_runV (As := [.int r_47, .int 0]) (rest := []) ⟨hx, hb, hml, hown, hts⟩ (c_Y5_row l D cI cC cT a u_55 H.size r_47 0 r_67 u_68 q_69) (cwV 2 hts gL_isWell_X5_row rfl rfl rfl (by decide +kernel) ⟨Nat.le_of_ble_eq_true rfl, Nat.le_of_ble_eq_true rfl⟩) (mPreVS [(FS cI cC cT a u_55)] flat1 hP hD hK hN [0] rfl (by decide) (va_recv hK (sP hP 0 rfl) (ci := 5) (q0 := 0) rfl (FS0 cI cC cT a u_55))) rfl rfl hl.1 rfl (lv_room (Nat.le_of_ble_eq_true rfl)) dL_isWell_150 ⟨Nat.le_of_ble_eq_true rfl, Nat.le_of_ble_eq_true rfl⟩) hP hD hS hA [0] rfl rfl rfl rfl (fun H locs hP hD hS => ?_)
                            refine lv_iload hx hb dL_isWell_153 (lv_at hl 14 rfl) ?_
                            refine lv_icmp_ne (tgt := 173) hx hb dL_isWell_155 (by decide) (fun c_70 => ?_) (fun c_70 => ?_)
                            · have hf := ite_f hf c_70
                              refine lv_iconst (v := 0) hx hb dL_isWell_173 (by decide) ?_
                              cases hf
                              exact K_63 _ _ hP hD hS _ (lv_sub hl [0, 1, 2, 3, 4, 5, 6, 7, 8, 9, 10, 11, 12, 13, 14, 15] rfl)
                            · have hf := ite_t hf c_70
                              refine lv_aload_n hx hb dL_isWell_158 rfl (lv_at hl 0 rfl) ?_
                              refine lv_iload hx hb dL_isWell_159 (lv_at hl 15 rfl) ?_
                              refine lv_iconst (v := 4) hx hb dL_isWell_161 (by decide) ?_
                              obtain ⟨⟨r_71, u_72⟩, q_73, hf⟩ := bnd hf
                              refine mGoiS (segs := [(FS cI cC cT a u_68), (W_A cI cC cT g 20 hd_43)]) (wcs := [(FS cI cC cT a u_68)]) (w1s := [(FS cI cC cT a u_72)]) (w2s := [(FS cI cC cT a u_72), (W_A cI cC cT g 20 hd_43)]) flat1 flat1 (va_runV (As := [.int r_47, .int 4]) (rest := []) ⟨hx, hb, hml, hown, hts⟩ (c_Y5_row l D cI cC cT a u_68 H.size r_47 4 r_71 u_72 q_73) (cwV 2 hts gL_isWell_X5_row rfl rfl rfl (by decide +kernel) ⟨Nat.le_of_ble_eq_true rfl, Nat.le_of_ble_eq_true rfl⟩) (mPreVS [(FS cI cC cT a u_68)] flat1 hP hD hK hN [0] rfl (by decide) (va_recv hK (sP hP 0 rfl) (ci := 5) (q0 := 0) rfl (FS0 cI cC cT a u_68))) rfl rfl hl.1 rfl (lv_room (Nat.le_of_ble_eq_true rfl)) dL_isWell_162 ⟨Nat.le_of_ble_eq_true rfl, Nat.le_of_ble_eq_true rfl⟩) hP hD hS hA [0] rfl rfl rfl rfl (fun H locs hP hD hS => ?_)
                              refine lv_iconst (v := 1) hx hb dL_isWell_165 (by decide) ?_
                              refine lv_icmp_ne (tgt := 173) hx hb dL_isWell_166 (by decide) (fun c_74 => ?_) (fun c_74 => ?_)
                              · have hf := ite_f hf c_74
                                refine lv_iconst (v := 0) hx hb dL_isWell_173 (by decide) ?_
                                cases hf
                                exact K_63 _ _ hP hD hS _ (lv_sub hl [0, 1, 2, 3, 4, 5, 6, 7, 8, 9, 10, 11, 12, 13, 14, 15] rfl)
                              · have hf := ite_t hf c_74
                                refine lv_iconst (v := 1) hx hb dL_isWell_169 (by decide) ?_
                                refine lv_goto (tgt := 174) hx hb dL_isWell_170 (by decide) ?_
                                cases hf
                                exact K_63 _ _ hP hD hS _ (lv_sub hl [0, 1, 2, 3, 4, 5, 6, 7, 8, 9, 10, 11, 12, 13, 14, 15] rfl)
                      have hf := q_59
                      refine lv_if_ne (tgt := 137) hx hb dL_isWell_130 (by decide) (fun c_60 => ?_) (fun c_60 => ?_)
                      · have hf := ite_f hf c_60
                        refine lv_iconst (v := 0) hx hb dL_isWell_137 (by decide) ?_
                        cases hf
                        exact K_58 _ _ hP hD hS _ (lv_sub hl [0, 1, 2, 3, 4, 5, 6, 7, 8, 9, 10, 11, 12, 13, 14, 15] rfl)
                      · have hf := ite_t hf c_60
                        refine lv_iconst (v := 1) hx hb dL_isWell_133 (by decide) ?_
                        refine lv_goto (tgt := 138) hx hb dL_isWell_134 (by decide) ?_
                        cases hf
                        exact K_58 _ _ hP hD hS _ (lv_sub hl [0, 1, 2, 3, 4, 5, 6, 7, 8, 9, 10, 11, 12, 13, 14, 15] rfl)
                    have hf := q_52
                    refine lv_icmp_ne (tgt := 122) hx hb dL_isWell_115 (by decide) (fun c_53 => ?_) (fun c_53 => ?_)
                    · have hf := ite_f hf c_53
                      refine lv_iconst (v := 0) hx hb dL_isWell_122 (by decide) ?_
                      cases hf
                      exact K_51 _ _ hP hD hS _ (lv_sub hl [1, 2, 3, 4, 5, 6, 7, 8, 9, 10, 11, 12, 14, 15, 16, 0] rfl)
                    · have hf := ite_t hf c_53
                      refine lv_iconst (v := 1) hx hb dL_isWell_118 (by decide) ?_
                      refine lv_goto (tgt := 123) hx hb dL_isWell_119 (by decide) ?_
                      cases hf
                      exact K_51 _ _ hP hD hS _ (lv_sub hl [1, 2, 3, 4, 5, 6, 7, 8, 9, 10, 11, 12, 14, 15, 16, 0] rfl)
            exact LP_44 _ _ _ _ _ _ hf _ _ hP hD hS _ (lv_sub hl [2, 3, 4, 5, 6, 7, 8, 9, 10, 11, 12, 13, 14, 15, 1, 0] rfl)
    exact LP_30 _ _ _ _ _ hf _ _ hP hD hS _ (lv_sub hl [13, 12, 11, 10, 9, 8, 7, 6, 5, 4, 3, 2, 1, 0] rfl)
  · have hf := ite_f hf c_4
    refine lv_iconst (v := 1) hx hb dL_isWell_13 (by decide) ?_
    refine W.widen (k := 1) (n := 20) (Nat.le_of_ble_eq_true rfl) (Nat.le_of_ble_eq_true rfl) ?_
    cases hf
    exact mZret hx hb hr rfl hlocks hP hD hK hS dL_isWell_14
