abbrev rm_L_isStep : Room := { frames := 9, cells := 0, slots := 0, locals := 216 }
set_option maxHeartbeats 16000000 in
set_option maxRecDepth 100000 in
theorem c_L_isStep (l : Launch) (D : va_G) (cI cC cT : ClassId) (a b : Nat → Nat) (u : SSt) (v : SSt) (sz : Nat) (p2 : Int32) (out : Int32) (o_u : SSt) (o_v : SSt) (hf : f_L_isStep u v p2 = some ((out, o_u, o_v))) : Met l yL_isStep wsL_isStep rm_L_isStep (mP D (mTY cI cC cT) [.ref (a 0), .ref (b 0), .int p2] (List.flatten [(FS cI cC cT a u), (FS cI cC cT b v)]) sz) (mQi D (mTY cI cC cT) out (va_A (List.flatten [(FS cI cC cT a u), (FS cI cC cT b v)]) sz) (List.flatten [(FS cI cC cT a o_u), (FS cI cC cT b o_v)])) 0 0 (va_A (List.flatten [(FS cI cC cT a u), (FS cI cC cT b v)]) sz) := by
  refine mEntN (cc := cL_isStep) (maxL := 12) (ret := (some .boolean)) (own := RL) (Qq := fun A => mQi D (mTY cI cC cT) out A (List.flatten [(FS cI cC cT a o_u), (FS cI cC cT b o_v)])) (by decide) rfl rfl (Nat.le_of_ble_eq_true rfl) ?_
  intro p e s m below meth c A ls H locs hx hb hr hml hlocks hown hts hN hA hP hK hD hS hl
  have hl : lv_has ls 12 [(0, .ref (a 0)), (1, .ref (b 0)), (2, .int p2)] := hl
  unfold f_L_isStep at hf
  refine lv_iload_n hx hb dL_isStep_0 rfl (lv_at hl 2 rfl) ?_
  refine lv_iconst (v := 4) hx hb dL_isStep_1 (by decide) ?_
  refine lv_ishr hx hb dL_isStep_2 ?_
  refine lv_istore_n (lv' := [(3, .int (p2 >>> (4 &&& 31))), (0, .ref (a 0)), (1, .ref (b 0)), (2, .int p2)]) hx hb dL_isStep_3 rfl hl (by decide) rfl (fun ls hl => ?_)
  refine lv_aload_n hx hb dL_isStep_4 rfl (lv_at hl 1 rfl) ?_
  refine lv_iconst (v := 0) hx hb dL_isStep_5 (by decide) ?_
  obtain ⟨⟨r_1, u_2⟩, q_3, hf⟩ := bnd hf
  refine mGoiS (segs := [(FS cI cC cT a u), (FS cI cC cT b v)]) (wcs := [(FS cI cC cT a u)]) (w1s := [(FS cI cC cT a u_2)]) (w2s := [(FS cI cC cT a u_2), (FS cI cC cT b v)]) flat1 flat1 (va_runV (As := [.int 0]) (rest := []) ⟨hx, hb, hml, hown, hts⟩ (c_Y5_count l D cI cC cT a u H.size 0 r_1 u_2 q_3) (cwV 1 hts gL_isStep_X5_count rfl rfl rfl (by decide +kernel) ⟨Nat.le_of_ble_eq_true rfl, Nat.le_of_ble_eq_true rfl⟩) (mPreVS [(FS cI cC cT a u)] flat1 hP hD hK hN [0] rfl (by decide) (va_recv hK (sP hP 0 rfl) (ci := 5) (q0 := 0) rfl (FS0 cI cC cT a u))) rfl rfl hl.1 rfl (lv_room (Nat.le_of_ble_eq_true rfl)) dL_isStep_6 ⟨Nat.le_of_ble_eq_true rfl, Nat.le_of_ble_eq_true rfl⟩) hP hD hS hA [0] rfl rfl rfl rfl (fun H locs hP hD hS => ?_)
  refine lv_istore (lv' := [(4, .int r_1), (3, .int (p2 >>> (4 &&& 31))), (0, .ref (a 0)), (1, .ref (b 0)), (2, .int p2)]) hx hb dL_isStep_9 hl (by decide) rfl (fun ls hl => ?_)
  refine lv_iload_n hx hb dL_isStep_11 rfl (lv_at hl 1 rfl) ?_
  refine lv_iload hx hb dL_isStep_12 (lv_at hl 0 rfl) ?_
  refine lv_iconst (v := 1) hx hb dL_isStep_14 (by decide) ?_
  refine lv_iadd hx hb dL_isStep_15 ?_
  obtain ⟨r_4, q_5, hf⟩ := bnd hf
  refine mGoiS (segs := [(FS cI cC cT a u_2), (FS cI cC cT b v)]) (wcs := []) (w1s := []) (w2s := [(FS cI cC cT a u_2), (FS cI cC cT b v)]) rfl rfl (va_runS (As := [.int (p2 >>> (4 &&& 31)), .int (r_1 + 1)]) (rest := []) ⟨hx, hb, hml, hown, hts⟩ (c_L_up l D cI cC cT H.size (p2 >>> (4 &&& 31)) (r_1 + 1) r_4 q_5) (va_cwS 2 hts gL_isStep_L_up rfl rfl rfl (by decide +kernel) ⟨Nat.le_of_ble_eq_true rfl, Nat.le_of_ble_eq_true rfl⟩) (mPreSS [] rfl hP hD hK hN [] rfl (by decide)) rfl rfl hl.1 rfl (lv_room (Nat.le_of_ble_eq_true rfl)) dL_isStep_16 ⟨Nat.le_of_ble_eq_true rfl, Nat.le_of_ble_eq_true rfl⟩) hP hD hS hA [] rfl rfl rfl rfl (fun H locs hP hD hS => ?_)
  refine lv_istore (lv' := [(5, .int r_4), (4, .int r_1), (3, .int (p2 >>> (4 &&& 31))), (0, .ref (a 0)), (1, .ref (b 0)), (2, .int p2)]) hx hb dL_isStep_19 hl (by decide) rfl (fun ls hl => ?_)
  refine lv_iload_n hx hb dL_isStep_21 rfl (lv_at hl 5 rfl) ?_
  refine lv_bipush (v := 13) hx hb dL_isStep_22 (by decide) ?_
  obtain ⟨r_6, q_7, hf⟩ := bnd hf
  refine mGoiS (segs := [(FS cI cC cT a u_2), (FS cI cC cT b v)]) (wcs := []) (w1s := []) (w2s := [(FS cI cC cT a u_2), (FS cI cC cT b v)]) rfl rfl (va_runS (As := [.int p2, .int 13]) (rest := []) ⟨hx, hb, hml, hown, hts⟩ (c_L_up l D cI cC cT H.size p2 13 r_6 q_7) (va_cwS 2 hts gL_isStep_L_up rfl rfl rfl (by decide +kernel) ⟨Nat.le_of_ble_eq_true rfl, Nat.le_of_ble_eq_true rfl⟩) (mPreSS [] rfl hP hD hK hN [] rfl (by decide)) rfl rfl hl.1 rfl (lv_room (Nat.le_of_ble_eq_true rfl)) dL_isStep_24 ⟨Nat.le_of_ble_eq_true rfl, Nat.le_of_ble_eq_true rfl⟩) hP hD hS hA [] rfl rfl rfl rfl (fun H locs hP hD hS => ?_)
  by_cases c_8 : r_6 = 0 ∨ r_6 = 1 ∨ r_6 = 2 ∨ r_6 = 3 ∨ r_6 = 4 ∨ r_6 = 5 ∨ r_6 = 6
  · have hf := ite_t hf c_8
    have K_9 : W p l e rm_L_isStep s m ([.ref (a 0), .ref (b 0), .int p2] : List Value).toArray below meth c H locs 0 0 (MQ below (mQi D (mTY cI cC cT) out A (List.flatten [(FS cI cC cT a o_u), (FS cI cC cT b o_v)])) ([.ref (a 0), .ref (b 0), .int p2] : List Value).toArray s 0 0 A) (F0 m 88 ls []) := by
      refine lv_iload_n hx hb dL_isStep_88 rfl (lv_at hl 2 rfl) ?_
      refine lv_iload_n hx hb dL_isStep_89 rfl (lv_at hl 2 rfl) ?_
      refine lv_bipush (v := 9) hx hb dL_isStep_90 (by decide) ?_
      refine lv_ishr hx hb dL_isStep_92 ?_
      refine lv_iconst (v := 3) hx hb dL_isStep_93 (by decide) ?_
      obtain ⟨r_10, q_11, hf⟩ := bnd hf
      refine mGoiS (segs := [(FS cI cC cT a u_2), (FS cI cC cT b v)]) (wcs := []) (w1s := []) (w2s := [(FS cI cC cT a u_2), (FS cI cC cT b v)]) rfl rfl (va_runS (As := [.int ((p2 >>> (4 &&& 31)) >>> (9 &&& 31)), .int 3]) (rest := [.int (p2 >>> (4 &&& 31))]) ⟨hx, hb, hml, hown, hts⟩ (c_L_up l D cI cC cT H.size ((p2 >>> (4 &&& 31)) >>> (9 &&& 31)) 3 r_10 q_11) (va_cwS 2 hts gL_isStep_L_up rfl rfl rfl (by decide +kernel) ⟨Nat.le_of_ble_eq_true rfl, Nat.le_of_ble_eq_true rfl⟩) (mPreSS [] rfl hP hD hK hN [] rfl (by decide)) rfl rfl hl.1 rfl (lv_room (Nat.le_of_ble_eq_true rfl)) dL_isStep_94 ⟨Nat.le_of_ble_eq_true rfl, Nat.le_of_ble_eq_true rfl⟩) hP hD hS hA [] rfl rfl rfl rfl (fun H locs hP hD hS => ?_)
      obtain ⟨x_12, q_14, hf⟩ := bnd hf
      have K_13 : ∀ (H : Heap) (locs : List Loc), va_P D vwCl (List.flatten [(FS cI cC cT a u_2), (FS cI cC cT b v)]) H → va_D A (List.flatten [(FS cI cC cT a u_2), (FS cI cC cT b v)]) → va_S A s.heap H locs → ∀ (ls : Array Slot), lv_has ls 12 [(0, .ref (a 0)), (1, .ref (b 0)), (3, .int (p2 >>> (4 &&& 31))), (4, .int r_1)] → W p l e rm_L_isStep s m ([.ref (a 0), .ref (b 0), .int p2] : List Value).toArray below meth c H locs 0 0 (MQ below (mQi D (mTY cI cC cT) out A (List.flatten [(FS cI cC cT a o_u), (FS cI cC cT b o_v)])) ([.ref (a 0), .ref (b 0), .int p2] : List Value).toArray s 0 0 A) (F0 m 106 ls [.int x_12, .int (p2 >>> (4 &&& 31))]) := by
        intro H locs hP hD hS ls hl
        obtain ⟨r_16, q_17, hf⟩ := bnd hf
        refine mGoiS (segs := [(FS cI cC cT a u_2), (FS cI cC cT b v)]) (wcs := []) (w1s := []) (w2s := [(FS cI cC cT a u_2), (FS cI cC cT b v)]) rfl rfl (va_runS (As := [.int (p2 >>> (4 &&& 31)), .int x_12]) (rest := []) ⟨hx, hb, hml, hown, hts⟩ (c_L_up l D cI cC cT H.size (p2 >>> (4 &&& 31)) x_12 r_16 q_17) (va_cwS 2 hts gL_isStep_L_up rfl rfl rfl (by decide +kernel) ⟨Nat.le_of_ble_eq_true rfl, Nat.le_of_ble_eq_true rfl⟩) (mPreSS [] rfl hP hD hK hN [] rfl (by decide)) rfl rfl hl.1 rfl (lv_room (Nat.le_of_ble_eq_true rfl)) dL_isStep_106 ⟨Nat.le_of_ble_eq_true rfl, Nat.le_of_ble_eq_true rfl⟩) hP hD hS hA [] rfl rfl rfl rfl (fun H locs hP hD hS => ?_)
        refine lv_istore (lv' := [(6, .int r_16), (0, .ref (a 0)), (1, .ref (b 0)), (3, .int (p2 >>> (4 &&& 31))), (4, .int r_1)]) hx hb dL_isStep_109 hl (by decide) rfl (fun ls hl => ?_)
        refine lv_bipush (v := 97) hx hb dL_isStep_111 (by decide) ?_
        refine lv_iload_n hx hb dL_isStep_113 rfl (lv_at hl 3 rfl) ?_
        refine lv_iconst (v := 3) hx hb dL_isStep_114 (by decide) ?_
        refine lv_ishr hx hb dL_isStep_115 ?_
        refine lv_iconst (v := 4) hx hb dL_isStep_116 (by decide) ?_
        obtain ⟨r_18, q_19, hf⟩ := bnd hf
        refine mGoiS (segs := [(FS cI cC cT a u_2), (FS cI cC cT b v)]) (wcs := []) (w1s := []) (w2s := [(FS cI cC cT a u_2), (FS cI cC cT b v)]) rfl rfl (va_runS (As := [.int ((p2 >>> (4 &&& 31)) >>> (3 &&& 31)), .int 4]) (rest := [.int 97]) ⟨hx, hb, hml, hown, hts⟩ (c_L_up l D cI cC cT H.size ((p2 >>> (4 &&& 31)) >>> (3 &&& 31)) 4 r_18 q_19) (va_cwS 2 hts gL_isStep_L_up rfl rfl rfl (by decide +kernel) ⟨Nat.le_of_ble_eq_true rfl, Nat.le_of_ble_eq_true rfl⟩) (mPreSS [] rfl hP hD hK hN [] rfl (by decide)) rfl rfl hl.1 rfl (lv_room (Nat.le_of_ble_eq_true rfl)) dL_isStep_117 ⟨Nat.le_of_ble_eq_true rfl, Nat.le_of_ble_eq_true rfl⟩) hP hD hS hA [] rfl rfl rfl rfl (fun H locs hP hD hS => ?_)
        refine lv_iadd hx hb dL_isStep_120 ?_
        refine lv_istore (lv' := [(7, .int (97 + r_18)), (6, .int r_16), (0, .ref (a 0)), (1, .ref (b 0)), (3, .int (p2 >>> (4 &&& 31))), (4, .int r_1)]) hx hb dL_isStep_121 hl (by decide) rfl (fun ls hl => ?_)
        refine lv_iload_n hx hb dL_isStep_123 rfl (lv_at hl 4 rfl) ?_
        refine lv_iconst (v := 5) hx hb dL_isStep_124 (by decide) ?_
        refine lv_ishr hx hb dL_isStep_125 ?_
        refine lv_iload_n hx hb dL_isStep_126 rfl (lv_at hl 4 rfl) ?_
        refine lv_bipush (v := 6) hx hb dL_isStep_127 (by decide) ?_
        refine lv_ishr hx hb dL_isStep_129 ?_
        refine lv_iconst (v := 2) hx hb dL_isStep_130 (by decide) ?_
        obtain ⟨r_20, q_21, hf⟩ := bnd hf
        refine mGoiS (segs := [(FS cI cC cT a u_2), (FS cI cC cT b v)]) (wcs := []) (w1s := []) (w2s := [(FS cI cC cT a u_2), (FS cI cC cT b v)]) rfl rfl (va_runS (As := [.int ((p2 >>> (4 &&& 31)) >>> (6 &&& 31)), .int 2]) (rest := [.int ((p2 >>> (4 &&& 31)) >>> (5 &&& 31))]) ⟨hx, hb, hml, hown, hts⟩ (c_L_up l D cI cC cT H.size ((p2 >>> (4 &&& 31)) >>> (6 &&& 31)) 2 r_20 q_21) (va_cwS 2 hts gL_isStep_L_up rfl rfl rfl (by decide +kernel) ⟨Nat.le_of_ble_eq_true rfl, Nat.le_of_ble_eq_true rfl⟩) (mPreSS [] rfl hP hD hK hN [] rfl (by decide)) rfl rfl hl.1 rfl (lv_room (Nat.le_of_ble_eq_true rfl)) dL_isStep_131 ⟨Nat.le_of_ble_eq_true rfl, Nat.le_of_ble_eq_true rfl⟩) hP hD hS hA [] rfl rfl rfl rfl (fun H locs hP hD hS => ?_)
        obtain ⟨x_22, q_24, hf⟩ := bnd hf
        have K_23 : ∀ (H : Heap) (locs : List Loc), va_P D vwCl (List.flatten [(FS cI cC cT a u_2), (FS cI cC cT b v)]) H → va_D A (List.flatten [(FS cI cC cT a u_2), (FS cI cC cT b v)]) → va_S A s.heap H locs → ∀ (ls : Array Slot), lv_has ls 12 [(0, .ref (a 0)), (1, .ref (b 0)), (3, .int (p2 >>> (4 &&& 31))), (4, .int r_1), (6, .int r_16), (7, .int (97 + r_18))] → W p l e rm_L_isStep s m ([.ref (a 0), .ref (b 0), .int p2] : List Value).toArray below meth c H locs 0 0 (MQ below (mQi D (mTY cI cC cT) out A (List.flatten [(FS cI cC cT a o_u), (FS cI cC cT b o_v)])) ([.ref (a 0), .ref (b 0), .int p2] : List Value).toArray s 0 0 A) (F0 m 143 ls [.int x_22, .int ((p2 >>> (4 &&& 31)) >>> (5 &&& 31))]) := by
          intro H locs hP hD hS ls hl
          obtain ⟨r_26, q_27, hf⟩ := bnd hf
          refine mGoiS (segs := [(FS cI cC cT a u_2), (FS cI cC cT b v)]) (wcs := []) (w1s := []) (w2s := [(FS cI cC cT a u_2), (FS cI cC cT b v)]) rfl rfl (va_runS (As := [.int ((p2 >>> (4 &&& 31)) >>> (5 &&& 31)), .int x_22]) (rest := []) ⟨hx, hb, hml, hown, hts⟩ (c_L_up l D cI cC cT H.size ((p2 >>> (4 &&& 31)) >>> (5 &&& 31)) x_22 r_26 q_27) (va_cwS 2 hts gL_isStep_L_up rfl rfl rfl (by decide +kernel) ⟨Nat.le_of_ble_eq_true rfl, Nat.le_of_ble_eq_true rfl⟩) (mPreSS [] rfl hP hD hK hN [] rfl (by decide)) rfl rfl hl.1 rfl (lv_room (Nat.le_of_ble_eq_true rfl)) dL_isStep_143 ⟨Nat.le_of_ble_eq_true rfl, Nat.le_of_ble_eq_true rfl⟩) hP hD hS hA [] rfl rfl rfl rfl (fun H locs hP hD hS => ?_)
          refine lv_istore (lv' := [(8, .int r_26), (0, .ref (a 0)), (1, .ref (b 0)), (3, .int (p2 >>> (4 &&& 31))), (4, .int r_1), (6, .int r_16), (7, .int (97 + r_18))]) hx hb dL_isStep_146 hl (by decide) rfl (fun ls hl => ?_)
          refine lv_iload_n hx hb dL_isStep_148 rfl (lv_at hl 3 rfl) ?_
          refine lv_bipush (v := 8) hx hb dL_isStep_149 (by decide) ?_
          refine lv_ishr hx hb dL_isStep_151 ?_
          refine lv_bipush (v := 7) hx hb dL_isStep_152 (by decide) ?_
          obtain ⟨r_28, q_29, hf⟩ := bnd hf
          refine mGoiS (segs := [(FS cI cC cT a u_2), (FS cI cC cT b v)]) (wcs := []) (w1s := []) (w2s := [(FS cI cC cT a u_2), (FS cI cC cT b v)]) rfl rfl (va_runS (As := [.int ((p2 >>> (4 &&& 31)) >>> (8 &&& 31)), .int 7]) (rest := []) ⟨hx, hb, hml, hown, hts⟩ (c_L_up l D cI cC cT H.size ((p2 >>> (4 &&& 31)) >>> (8 &&& 31)) 7 r_28 q_29) (va_cwS 2 hts gL_isStep_L_up rfl rfl rfl (by decide +kernel) ⟨Nat.le_of_ble_eq_true rfl, Nat.le_of_ble_eq_true rfl⟩) (mPreSS [] rfl hP hD hK hN [] rfl (by decide)) rfl rfl hl.1 rfl (lv_room (Nat.le_of_ble_eq_true rfl)) dL_isStep_154 ⟨Nat.le_of_ble_eq_true rfl, Nat.le_of_ble_eq_true rfl⟩) hP hD hS hA [] rfl rfl rfl rfl (fun H locs hP hD hS => ?_)
          refine lv_istore (lv' := [(9, .int r_28), (8, .int r_26), (0, .ref (a 0)), (1, .ref (b 0)), (3, .int (p2 >>> (4 &&& 31))), (4, .int r_1), (6, .int r_16), (7, .int (97 + r_18))]) hx hb dL_isStep_157 hl (by decide) rfl (fun ls hl => ?_)
          refine lv_iload hx hb dL_isStep_159 (lv_at hl 0 rfl) ?_
          refine lv_bipush (v := 6) hx hb dL_isStep_161 (by decide) ?_
          obtain ⟨x_30, q_32, hf⟩ := bnd hf
          have K_31 : ∀ (H : Heap) (locs : List Loc), va_P D vwCl (List.flatten [(FS cI cC cT a u_2), (FS cI cC cT b v)]) H → va_D A (List.flatten [(FS cI cC cT a u_2), (FS cI cC cT b v)]) → va_S A s.heap H locs → ∀ (ls : Array Slot), lv_has ls 12 [(0, .ref (a 0)), (1, .ref (b 0)), (4, .int r_1), (6, .int r_16), (7, .int (97 + r_18)), (8, .int r_26)] → W p l e rm_L_isStep s m ([.ref (a 0), .ref (b 0), .int p2] : List Value).toArray below meth c H locs 0 0 (MQ below (mQi D (mTY cI cC cT) out A (List.flatten [(FS cI cC cT a o_u), (FS cI cC cT b o_v)])) ([.ref (a 0), .ref (b 0), .int p2] : List Value).toArray s 0 0 A) (F0 m 173 ls [.int x_30]) := by
            intro H locs hP hD hS ls hl
            refine lv_istore (lv' := [(9, .int x_30), (0, .ref (a 0)), (1, .ref (b 0)), (4, .int r_1), (6, .int r_16), (7, .int (97 + r_18)), (8, .int r_26)]) hx hb dL_isStep_173 hl (by decide) rfl (fun ls hl => ?_)
            refine lv_aload_n hx hb dL_isStep_175 rfl (lv_at hl 1 rfl) ?_
            refine lv_iconst (v := 3) hx hb dL_isStep_176 (by decide) ?_
            obtain ⟨⟨r_34, u_35⟩, q_36, hf⟩ := bnd hf
            refine mGoiS (segs := [(FS cI cC cT a u_2), (FS cI cC cT b v)]) (wcs := [(FS cI cC cT a u_2)]) (w1s := [(FS cI cC cT a u_35)]) (w2s := [(FS cI cC cT a u_35), (FS cI cC cT b v)]) flat1 flat1 (va_runV (As := [.int 3]) (rest := []) ⟨hx, hb, hml, hown, hts⟩ (c_Y5_count l D cI cC cT a u_2 H.size 3 r_34 u_35 q_36) (cwV 1 hts gL_isStep_X5_count rfl rfl rfl (by decide +kernel) ⟨Nat.le_of_ble_eq_true rfl, Nat.le_of_ble_eq_true rfl⟩) (mPreVS [(FS cI cC cT a u_2)] flat1 hP hD hK hN [0] rfl (by decide) (va_recv hK (sP hP 0 rfl) (ci := 5) (q0 := 0) rfl (FS0 cI cC cT a u_2))) rfl rfl hl.1 rfl (lv_room (Nat.le_of_ble_eq_true rfl)) dL_isStep_177 ⟨Nat.le_of_ble_eq_true rfl, Nat.le_of_ble_eq_true rfl⟩) hP hD hS hA [0] rfl rfl rfl rfl (fun H locs hP hD hS => ?_)
            refine lv_istore (lv' := [(10, .int r_34), (9, .int x_30), (0, .ref (a 0)), (1, .ref (b 0)), (4, .int r_1), (6, .int r_16), (7, .int (97 + r_18)), (8, .int r_26)]) hx hb dL_isStep_180 hl (by decide) rfl (fun ls hl => ?_)
            refine lv_iload hx hb dL_isStep_182 (lv_at hl 0 rfl) ?_
            refine lv_bipush (v := 100) hx hb dL_isStep_184 (by decide) ?_
            refine lv_icmp_le (tgt := 191) hx hb dL_isStep_186 (by decide) (fun c_37 => ?_) (fun c_37 => ?_)
            · have hf := ite_t hf c_37
              refine lv_aload_n hx hb dL_isStep_191 rfl (lv_at hl 2 rfl) ?_
              refine lv_iload hx hb dL_isStep_192 (lv_at hl 5 rfl) ?_
              refine lv_iload hx hb dL_isStep_194 (lv_at hl 6 rfl) ?_
              refine lv_i2c hx hb dL_isStep_196 rfl ?_
              refine lv_iload hx hb dL_isStep_197 (lv_at hl 7 rfl) ?_
              refine lv_iload hx hb dL_isStep_199 (lv_at hl 1 rfl) ?_
              obtain ⟨⟨r_38, u_39⟩, q_40, hf⟩ := bnd hf
              refine mGoiS (segs := [(FS cI cC cT a u_35), (FS cI cC cT b v)]) (wcs := [(FS cI cC cT a u_35)]) (w1s := [(FS cI cC cT a u_39)]) (w2s := [(FS cI cC cT a u_39), (FS cI cC cT b v)]) flat1 flat1 (va_runV (As := [.int r_16, .int (((97 + r_18).toUInt32 % 65536).toInt32), .int r_26, .int x_30]) (rest := []) ⟨hx, hb, hml, hown, hts⟩ (c_Y5_add l D cI cC cT a u_35 H.size r_16 (((97 + r_18).toUInt32 % 65536).toInt32) r_26 x_30 r_38 u_39 q_40) (cwV 4 hts gL_isStep_X5_add rfl rfl rfl (by decide +kernel) ⟨Nat.le_of_ble_eq_true rfl, Nat.le_of_ble_eq_true rfl⟩) (mPreVS [(FS cI cC cT a u_35)] flat1 hP hD hK hN [0] rfl (by decide) (va_recv hK (sP hP 0 rfl) (ci := 5) (q0 := 0) rfl (FS0 cI cC cT a u_35))) rfl rfl hl.1 rfl (lv_room (Nat.le_of_ble_eq_true rfl)) dL_isStep_201 ⟨Nat.le_of_ble_eq_true rfl, Nat.le_of_ble_eq_true rfl⟩) hP hD hS hA [0] rfl rfl rfl rfl (fun H locs hP hD hS => ?_)
              refine lv_istore (lv' := [(11, .int r_38), (10, .int r_34), (9, .int x_30), (0, .ref (a 0)), (1, .ref (b 0)), (4, .int r_1), (6, .int r_16), (7, .int (97 + r_18)), (8, .int r_26)]) hx hb dL_isStep_204 hl (by decide) rfl (fun ls hl => ?_)
              refine lv_iload hx hb dL_isStep_206 (lv_at hl 0 rfl) ?_
              refine lv_aload_n hx hb dL_isStep_208 rfl (lv_at hl 4 rfl) ?_
              refine lv_bipush (v := 9) hx hb dL_isStep_209 (by decide) ?_
              refine lv_iload hx hb dL_isStep_211 (lv_at hl 6 rfl) ?_
              refine lv_isub hx hb dL_isStep_213 ?_
              refine lv_iload hx hb dL_isStep_214 (lv_at hl 7 rfl) ?_
              obtain ⟨r_41, q_42, hf⟩ := bnd hf
              refine mGoiS (segs := [(FS cI cC cT a u_39), (FS cI cC cT b v)]) (wcs := []) (w1s := []) (w2s := [(FS cI cC cT a u_39), (FS cI cC cT b v)]) rfl rfl (va_runS (As := [.int (97 + r_18)]) (rest := [.int (9 - r_16), .ref (b 0), .int r_38]) ⟨hx, hb, hml, hown, hts⟩ (c_L_value l D cI cC cT H.size (97 + r_18) r_41 q_42) (va_cwS 1 hts gL_isStep_L_value rfl rfl rfl (by decide +kernel) ⟨Nat.le_of_ble_eq_true rfl, Nat.le_of_ble_eq_true rfl⟩) (mPreSS [] rfl hP hD hK hN [] rfl (by decide)) rfl rfl hl.1 rfl (lv_room (Nat.le_of_ble_eq_true rfl)) dL_isStep_216 ⟨Nat.le_of_ble_eq_true rfl, Nat.le_of_ble_eq_true rfl⟩) hP hD hS hA [] rfl rfl rfl rfl (fun H locs hP hD hS => ?_)
              refine lv_iload hx hb dL_isStep_219 (lv_at hl 8 rfl) ?_
              refine lv_iload hx hb dL_isStep_221 (lv_at hl 2 rfl) ?_
              obtain ⟨r_43, q_44, hf⟩ := bnd hf
              refine mGoiS (segs := [(FS cI cC cT a u_39), (FS cI cC cT b v)]) (wcs := []) (w1s := []) (w2s := [(FS cI cC cT a u_39), (FS cI cC cT b v)]) rfl rfl (va_runS (As := [.int x_30]) (rest := [.int r_26, .int r_41, .int (9 - r_16), .ref (b 0), .int r_38]) ⟨hx, hb, hml, hown, hts⟩ (c_L_there l D cI cC cT H.size x_30 r_43 q_44) (va_cwS 1 hts gL_isStep_L_there rfl rfl rfl (by decide +kernel) ⟨Nat.le_of_ble_eq_true rfl, Nat.le_of_ble_eq_true rfl⟩) (mPreSS [] rfl hP hD hK hN [] rfl (by decide)) rfl rfl hl.1 rfl (lv_room (Nat.le_of_ble_eq_true rfl)) dL_isStep_223 ⟨Nat.le_of_ble_eq_true rfl, Nat.le_of_ble_eq_true rfl⟩) hP hD hS hA [] rfl rfl rfl rfl (fun H locs hP hD hS => ?_)
              obtain ⟨⟨r_45, v_46⟩, q_47, hf⟩ := bnd hf
              refine mGoiS (segs := [(FS cI cC cT a u_39), (FS cI cC cT b v)]) (wcs := [(FS cI cC cT b v)]) (w1s := [(FS cI cC cT b v_46)]) (w2s := [(FS cI cC cT a u_39), (FS cI cC cT b v_46)]) flat1 flat1 (va_runV (As := [.int (9 - r_16), .int r_41, .int r_26, .int r_43]) (rest := [.int r_38]) ⟨hx, hb, hml, hown, hts⟩ (c_Y5_add l D cI cC cT b v H.size (9 - r_16) r_41 r_26 r_43 r_45 v_46 q_47) (cwV 4 hts gL_isStep_X5_add rfl rfl rfl (by decide +kernel) ⟨Nat.le_of_ble_eq_true rfl, Nat.le_of_ble_eq_true rfl⟩) (mPreVS [(FS cI cC cT b v)] flat1 hP hD hK hN [1] rfl (by decide) (va_recv hK (sP hP 1 rfl) (ci := 5) (q0 := 0) rfl (FS0 cI cC cT b v))) rfl rfl hl.1 rfl (lv_room (Nat.le_of_ble_eq_true rfl)) dL_isStep_226 ⟨Nat.le_of_ble_eq_true rfl, Nat.le_of_ble_eq_true rfl⟩) hP hD hS hA [1] rfl rfl rfl rfl (fun H locs hP hD hS => ?_)
              refine lv_icmp_ne (tgt := 292) hx hb dL_isStep_229 (by decide) (fun c_48 => ?_) (fun c_48 => ?_)
              · have hf := ite_f hf c_48
                refine lv_iconst (v := 0) hx hb dL_isStep_292 (by decide) ?_
                cases hf
                exact mZret hx hb hr rfl hlocks hP hD hK hS dL_isStep_293
              · have hf := ite_t hf c_48
                refine lv_iload hx hb dL_isStep_232 (lv_at hl 5 rfl) ?_
                refine lv_bipush (v := 20) hx hb dL_isStep_234 (by decide) ?_
                refine lv_icmp_ne (tgt := 249) hx hb dL_isStep_236 (by decide) (fun c_49 => ?_) (fun c_49 => ?_)
                · have hf := ite_f hf c_49
                  refine lv_iload hx hb dL_isStep_249 (lv_at hl 0 rfl) ?_
                  refine lv_iload hx hb dL_isStep_251 (lv_at hl 5 rfl) ?_
                  refine lv_icmp_ne (tgt := 292) hx hb dL_isStep_253 (by decide) (fun c_50 => ?_) (fun c_50 => ?_)
                  · have hf := ite_f hf c_50
                    refine lv_iconst (v := 0) hx hb dL_isStep_292 (by decide) ?_
                    cases hf
                    exact mZret hx hb hr rfl hlocks hP hD hK hS dL_isStep_293
                  · have hf := ite_t hf c_50
                    refine lv_aload_n hx hb dL_isStep_256 rfl (lv_at hl 3 rfl) ?_
                    refine lv_iload hx hb dL_isStep_257 (lv_at hl 5 rfl) ?_
                    refine lv_iconst (v := 2) hx hb dL_isStep_259 (by decide) ?_
                    obtain ⟨⟨r_51, u_52⟩, q_53, hf⟩ := bnd hf
                    refine mGoiS (segs := [(FS cI cC cT a u_39), (FS cI cC cT b v_46)]) (wcs := [(FS cI cC cT a u_39)]) (w1s := [(FS cI cC cT a u_52)]) (w2s := [(FS cI cC cT a u_52), (FS cI cC cT b v_46)]) flat1 flat1 (va_runV (As := [.int r_1, .int 2]) (rest := []) ⟨hx, hb, hml, hown, hts⟩ (c_Y5_row l D cI cC cT a u_39 H.size r_1 2 r_51 u_52 q_53) (cwV 2 hts gL_isStep_X5_row rfl rfl rfl (by decide +kernel) ⟨Nat.le_of_ble_eq_true rfl, Nat.le_of_ble_eq_true rfl⟩) (mPreVS [(FS cI cC cT a u_39)] flat1 hP hD hK hN [0] rfl (by decide) (va_recv hK (sP hP 0 rfl) (ci := 5) (q0 := 0) rfl (FS0 cI cC cT a u_39))) rfl rfl hl.1 rfl (lv_room (Nat.le_of_ble_eq_true rfl)) dL_isStep_260 ⟨Nat.le_of_ble_eq_true rfl, Nat.le_of_ble_eq_true rfl⟩) hP hD hS hA [0] rfl rfl rfl rfl (fun H locs hP hD hS => ?_)
                    refine lv_iload hx hb dL_isStep_263 (lv_at hl 8 rfl) ?_
                    refine lv_icmp_ne (tgt := 292) hx hb dL_isStep_265 (by decide) (fun c_54 => ?_) (fun c_54 => ?_)
                    · have hf := ite_f hf c_54
                      refine lv_iconst (v := 0) hx hb dL_isStep_292 (by decide) ?_
                      cases hf
                      exact mZret hx hb hr rfl hlocks hP hD hK hS dL_isStep_293
                    · have hf := ite_t hf c_54
                      refine lv_aload_n hx hb dL_isStep_268 rfl (lv_at hl 3 rfl) ?_
                      refine lv_bipush (v := 9) hx hb dL_isStep_269 (by decide) ?_
                      obtain ⟨⟨r_55, u_56⟩, q_57, hf⟩ := bnd hf
                      refine mGoiS (segs := [(FS cI cC cT a u_52), (FS cI cC cT b v_46)]) (wcs := [(FS cI cC cT a u_52)]) (w1s := [(FS cI cC cT a u_56)]) (w2s := [(FS cI cC cT a u_56), (FS cI cC cT b v_46)]) flat1 flat1 (va_runV (As := [.int 9]) (rest := []) ⟨hx, hb, hml, hown, hts⟩ (c_Y5_count l D cI cC cT a u_52 H.size 9 r_55 u_56 q_57) (cwV 1 hts gL_isStep_X5_count rfl rfl rfl (by decide +kernel) ⟨Nat.le_of_ble_eq_true rfl, Nat.le_of_ble_eq_true rfl⟩) (mPreVS [(FS cI cC cT a u_52)] flat1 hP hD hK hN [0] rfl (by decide) (va_recv hK (sP hP 0 rfl) (ci := 5) (q0 := 0) rfl (FS0 cI cC cT a u_52))) rfl rfl hl.1 rfl (lv_room (Nat.le_of_ble_eq_true rfl)) dL_isStep_271 ⟨Nat.le_of_ble_eq_true rfl, Nat.le_of_ble_eq_true rfl⟩) hP hD hS hA [0] rfl rfl rfl rfl (fun H locs hP hD hS => ?_)
                      refine lv_iconst (v := 1) hx hb dL_isStep_274 (by decide) ?_
                      refine lv_icmp_eq (tgt := 288) hx hb dL_isStep_275 (by decide) (fun c_58 => ?_) (fun c_58 => ?_)
                      · have hf := ite_t hf c_58
                        refine lv_iconst (v := 1) hx hb dL_isStep_288 (by decide) ?_
                        refine lv_goto (tgt := 293) hx hb dL_isStep_289 (by decide) ?_
                        cases hf
                        exact mZret hx hb hr rfl hlocks hP hD hK hS dL_isStep_293
                      · have hf := ite_f hf c_58
                        refine lv_aload_n hx hb dL_isStep_278 rfl (lv_at hl 3 rfl) ?_
                        refine lv_iconst (v := 3) hx hb dL_isStep_279 (by decide) ?_
                        obtain ⟨⟨r_59, u_60⟩, q_61, hf⟩ := bnd hf
                        refine mGoiS (segs := [(FS cI cC cT a u_56), (FS cI cC cT b v_46)]) (wcs := [(FS cI cC cT a u_56)]) (w1s := [(FS cI cC cT a u_60)]) (w2s := [(FS cI cC cT a u_60), (FS cI cC cT b v_46)]) flat1 flat1 (va_runV (As := [.int 3]) (rest := []) ⟨hx, hb, hml, hown, hts⟩ (c_Y5_count l D cI cC cT a u_56 H.size 3 r_59 u_60 q_61) (cwV 1 hts gL_isStep_X5_count rfl rfl rfl (by decide +kernel) ⟨Nat.le_of_ble_eq_true rfl, Nat.le_of_ble_eq_true rfl⟩) (mPreVS [(FS cI cC cT a u_56)] flat1 hP hD hK hN [0] rfl (by decide) (va_recv hK (sP hP 0 rfl) (ci := 5) (q0 := 0) rfl (FS0 cI cC cT a u_56))) rfl rfl hl.1 rfl (lv_room (Nat.le_of_ble_eq_true rfl)) dL_isStep_280 ⟨Nat.le_of_ble_eq_true rfl, Nat.le_of_ble_eq_true rfl⟩) hP hD hS hA [0] rfl rfl rfl rfl (fun H locs hP hD hS => ?_)
                        refine lv_iload hx hb dL_isStep_283 (lv_at hl 1 rfl) ?_
                        refine lv_icmp_lt (tgt := 292) hx hb dL_isStep_285 (by decide) (fun c_62 => ?_) (fun c_62 => ?_)
                        · have hf := ite_t hf c_62
                          refine lv_iconst (v := 0) hx hb dL_isStep_292 (by decide) ?_
                          cases hf
                          exact mZret hx hb hr rfl hlocks hP hD hK hS dL_isStep_293
                        · have hf := ite_f hf c_62
                          refine lv_iconst (v := 1) hx hb dL_isStep_288 (by decide) ?_
                          refine lv_goto (tgt := 293) hx hb dL_isStep_289 (by decide) ?_
                          cases hf
                          exact mZret hx hb hr rfl hlocks hP hD hK hS dL_isStep_293
                · have hf := ite_t hf c_49
                  refine lv_iload hx hb dL_isStep_239 (lv_at hl 0 rfl) ?_
                  refine lv_bipush (v := -3) hx hb dL_isStep_241 (by decide) ?_
                  refine lv_icmp_ne (tgt := 292) hx hb dL_isStep_243 (by decide) (fun c_63 => ?_) (fun c_63 => ?_)
                  · have hf := ite_f hf c_63
                    refine lv_iconst (v := 0) hx hb dL_isStep_292 (by decide) ?_
                    cases hf
                    exact mZret hx hb hr rfl hlocks hP hD hK hS dL_isStep_293
                  · have hf := ite_t hf c_63
                    refine lv_goto (tgt := 288) hx hb dL_isStep_246 (by decide) ?_
                    refine lv_iconst (v := 1) hx hb dL_isStep_288 (by decide) ?_
                    refine lv_goto (tgt := 293) hx hb dL_isStep_289 (by decide) ?_
                    cases hf
                    exact mZret hx hb hr rfl hlocks hP hD hK hS dL_isStep_293
            · have hf := ite_f hf c_37
              refine lv_iconst (v := 1) hx hb dL_isStep_189 (by decide) ?_
              cases hf
              exact mZret hx hb hr rfl hlocks hP hD hK hS dL_isStep_190
          have hf := q_32
          refine lv_icmp_ne (tgt := 171) hx hb dL_isStep_163 (by decide) (fun c_33 => ?_) (fun c_33 => ?_)
          · have hf := ite_f hf c_33
            refine lv_iload hx hb dL_isStep_171 (lv_at hl 0 rfl) ?_
            cases hf
            exact K_31 _ _ hP hD hS _ (lv_sub hl [2, 3, 5, 6, 7, 1] rfl)
          · have hf := ite_t hf c_33
            refine lv_bipush (v := -5) hx hb dL_isStep_166 (by decide) ?_
            refine lv_goto (tgt := 173) hx hb dL_isStep_168 (by decide) ?_
            cases hf
            exact K_31 _ _ hP hD hS _ (lv_sub hl [2, 3, 5, 6, 7, 1] rfl)
        have hf := q_24
        refine lv_if_ne (tgt := 142) hx hb dL_isStep_134 (by decide) (fun c_25 => ?_) (fun c_25 => ?_)
        · have hf := ite_f hf c_25
          refine lv_iconst (v := 3) hx hb dL_isStep_142 (by decide) ?_
          cases hf
          exact K_23 _ _ hP hD hS _ (lv_sub hl [2, 3, 4, 5, 1, 0] rfl)
        · have hf := ite_t hf c_25
          refine lv_bipush (v := 100) hx hb dL_isStep_137 (by decide) ?_
          refine lv_goto (tgt := 143) hx hb dL_isStep_139 (by decide) ?_
          cases hf
          exact K_23 _ _ hP hD hS _ (lv_sub hl [2, 3, 4, 5, 1, 0] rfl)
      have hf := q_14
      refine lv_if_ne (tgt := 105) hx hb dL_isStep_97 (by decide) (fun c_15 => ?_) (fun c_15 => ?_)
      · have hf := ite_f hf c_15
        refine lv_iconst (v := 5) hx hb dL_isStep_105 (by decide) ?_
        cases hf
        exact K_13 _ _ hP hD hS _ (lv_sub hl [3, 4, 2, 1] rfl)
      · have hf := ite_t hf c_15
        refine lv_bipush (v := 10) hx hb dL_isStep_100 (by decide) ?_
        refine lv_goto (tgt := 106) hx hb dL_isStep_102 (by decide) ?_
        cases hf
        exact K_13 _ _ hP hD hS _ (lv_sub hl [3, 4, 2, 1] rfl)
    rcases c_8 with c_8 | c_8 | c_8 | c_8 | c_8 | c_8 | c_8
    · refine lv_tableIn (tgt := 88) hx hb dL_isStep_27 (by rw [c_8]; decide) (by rw [c_8]; decide) (by rw [c_8]; rfl) (by decide) K_9
    · refine lv_tableIn (tgt := 88) hx hb dL_isStep_27 (by rw [c_8]; decide) (by rw [c_8]; decide) (by rw [c_8]; rfl) (by decide) K_9
    · refine lv_tableIn (tgt := 88) hx hb dL_isStep_27 (by rw [c_8]; decide) (by rw [c_8]; decide) (by rw [c_8]; rfl) (by decide) K_9
    · refine lv_tableIn (tgt := 88) hx hb dL_isStep_27 (by rw [c_8]; decide) (by rw [c_8]; decide) (by rw [c_8]; rfl) (by decide) K_9
    · refine lv_tableIn (tgt := 88) hx hb dL_isStep_27 (by rw [c_8]; decide) (by rw [c_8]; decide) (by rw [c_8]; rfl) (by decide) K_9
    · refine lv_tableIn (tgt := 88) hx hb dL_isStep_27 (by rw [c_8]; decide) (by rw [c_8]; decide) (by rw [c_8]; rfl) (by decide) K_9
    · refine lv_tableIn (tgt := 88) hx hb dL_isStep_27 (by rw [c_8]; decide) (by rw [c_8]; decide) (by rw [c_8]; rfl) (by decide) K_9
  have hf := ite_f hf c_8
  have nc_8_0 : ¬ r_6 = 0 := fun h9 => c_8 (Or.inl h9)
  have nc_8_1 : ¬ r_6 = 1 := fun h9 => c_8 (Or.inr (Or.inl h9))
  have nc_8_2 : ¬ r_6 = 2 := fun h9 => c_8 (Or.inr (Or.inr (Or.inl h9)))
  have nc_8_3 : ¬ r_6 = 3 := fun h9 => c_8 (Or.inr (Or.inr (Or.inr (Or.inl h9))))
  have nc_8_4 : ¬ r_6 = 4 := fun h9 => c_8 (Or.inr (Or.inr (Or.inr (Or.inr (Or.inl h9)))))
  have nc_8_5 : ¬ r_6 = 5 := fun h9 => c_8 (Or.inr (Or.inr (Or.inr (Or.inr (Or.inr (Or.inl h9))))))
  have nc_8_6 : ¬ r_6 = 6 := fun h9 => c_8 (Or.inr (Or.inr (Or.inr (Or.inr (Or.inr (Or.inr h9))))))
  by_cases c_64 : r_6 = 7
  · have hf := ite_t hf c_64
    have K_65 : W p l e rm_L_isStep s m ([.ref (a 0), .ref (b 0), .int p2] : List Value).toArray below meth c H locs 0 0 (MQ below (mQi D (mTY cI cC cT) out A (List.flatten [(FS cI cC cT a o_u), (FS cI cC cT b o_v)])) ([.ref (a 0), .ref (b 0), .int p2] : List Value).toArray s 0 0 A) (F0 m 294 ls []) := by
      refine lv_aload_n hx hb dL_isStep_294 rfl (lv_at hl 3 rfl) ?_
      refine lv_iload hx hb dL_isStep_295 (lv_at hl 0 rfl) ?_
      obtain ⟨⟨r_66, u_67⟩, q_68, hf⟩ := bnd hf
      refine mGoiS (segs := [(FS cI cC cT a u_2), (FS cI cC cT b v)]) (wcs := [(FS cI cC cT a u_2)]) (w1s := [(FS cI cC cT a u_67)]) (w2s := [(FS cI cC cT a u_67), (FS cI cC cT b v)]) flat1 flat1 (va_runV (As := [.int r_4]) (rest := []) ⟨hx, hb, hml, hown, hts⟩ (c_Y5_remove l D cI cC cT a u_2 H.size r_4 r_66 u_67 q_68) (cwV 1 hts gL_isStep_X5_remove rfl rfl rfl (by decide +kernel) ⟨Nat.le_of_ble_eq_true rfl, Nat.le_of_ble_eq_true rfl⟩) (mPreVS [(FS cI cC cT a u_2)] flat1 hP hD hK hN [0] rfl (by decide) (va_recv hK (sP hP 0 rfl) (ci := 5) (q0 := 0) rfl (FS0 cI cC cT a u_2))) rfl rfl hl.1 rfl (lv_room (Nat.le_of_ble_eq_true rfl)) dL_isStep_297 ⟨Nat.le_of_ble_eq_true rfl, Nat.le_of_ble_eq_true rfl⟩) hP hD hS hA [0] rfl rfl rfl rfl (fun H locs hP hD hS => ?_)
      refine lv_istore (lv' := [(6, .int r_66), (5, .int r_4), (4, .int r_1), (3, .int (p2 >>> (4 &&& 31))), (0, .ref (a 0)), (1, .ref (b 0)), (2, .int p2)]) hx hb dL_isStep_300 hl (by decide) rfl (fun ls hl => ?_)
      refine lv_iload hx hb dL_isStep_302 (lv_at hl 0 rfl) ?_
      refine lv_aload_n hx hb dL_isStep_304 rfl (lv_at hl 5 rfl) ?_
      refine lv_iload hx hb dL_isStep_305 (lv_at hl 1 rfl) ?_
      obtain ⟨⟨r_69, v_70⟩, q_71, hf⟩ := bnd hf
      refine mGoiS (segs := [(FS cI cC cT a u_67), (FS cI cC cT b v)]) (wcs := [(FS cI cC cT b v)]) (w1s := [(FS cI cC cT b v_70)]) (w2s := [(FS cI cC cT a u_67), (FS cI cC cT b v_70)]) flat1 flat1 (va_runV (As := [.int r_4]) (rest := [.int r_66]) ⟨hx, hb, hml, hown, hts⟩ (c_Y5_remove l D cI cC cT b v H.size r_4 r_69 v_70 q_71) (cwV 1 hts gL_isStep_X5_remove rfl rfl rfl (by decide +kernel) ⟨Nat.le_of_ble_eq_true rfl, Nat.le_of_ble_eq_true rfl⟩) (mPreVS [(FS cI cC cT b v)] flat1 hP hD hK hN [1] rfl (by decide) (va_recv hK (sP hP 1 rfl) (ci := 5) (q0 := 0) rfl (FS0 cI cC cT b v))) rfl rfl hl.1 rfl (lv_room (Nat.le_of_ble_eq_true rfl)) dL_isStep_307 ⟨Nat.le_of_ble_eq_true rfl, Nat.le_of_ble_eq_true rfl⟩) hP hD hS hA [1] rfl rfl rfl rfl (fun H locs hP hD hS => ?_)
      refine lv_icmp_ne (tgt := 337) hx hb dL_isStep_310 (by decide) (fun c_72 => ?_) (fun c_72 => ?_)
      · have hf := ite_f hf c_72
        refine lv_iconst (v := 0) hx hb dL_isStep_337 (by decide) ?_
        cases hf
        exact mZret hx hb hr rfl hlocks hP hD hK hS dL_isStep_338
      · have hf := ite_t hf c_72
        refine lv_iload hx hb dL_isStep_313 (lv_at hl 0 rfl) ?_
        refine lv_iload hx hb dL_isStep_315 (lv_at hl 1 rfl) ?_
        refine lv_iload hx hb dL_isStep_317 (lv_at hl 2 rfl) ?_
        obtain ⟨x_73, q_75, hf⟩ := bnd hf
        have K_74 : ∀ (H : Heap) (locs : List Loc), va_P D vwCl (List.flatten [(FS cI cC cT a u_67), (FS cI cC cT b v_70)]) H → va_D A (List.flatten [(FS cI cC cT a u_67), (FS cI cC cT b v_70)]) → va_S A s.heap H locs → ∀ (ls : Array Slot), lv_has ls 12 [] → W p l e rm_L_isStep s m ([.ref (a 0), .ref (b 0), .int p2] : List Value).toArray below meth c H locs 0 0 (MQ below (mQi D (mTY cI cC cT) out A (List.flatten [(FS cI cC cT a o_u), (FS cI cC cT b o_v)])) ([.ref (a 0), .ref (b 0), .int p2] : List Value).toArray s 0 0 A) (F0 m 330 ls [.int x_73, .int r_66]) := by
          intro H locs hP hD hS ls hl
          refine lv_icmp_ne (tgt := 337) hx hb dL_isStep_330 (by decide) (fun c_77 => ?_) (fun c_77 => ?_)
          · have hf := ite_f hf c_77
            refine lv_iconst (v := 0) hx hb dL_isStep_337 (by decide) ?_
            cases hf
            exact mZret hx hb hr rfl hlocks hP hD hK hS dL_isStep_338
          · have hf := ite_t hf c_77
            refine lv_iconst (v := 1) hx hb dL_isStep_333 (by decide) ?_
            refine lv_goto (tgt := 338) hx hb dL_isStep_334 (by decide) ?_
            cases hf
            exact mZret hx hb hr rfl hlocks hP hD hK hS dL_isStep_338
        have hf := q_75
        refine lv_icmp_ne (tgt := 326) hx hb dL_isStep_319 (by decide) (fun c_76 => ?_) (fun c_76 => ?_)
        · have hf := ite_f hf c_76
          refine lv_iload hx hb dL_isStep_326 (lv_at hl 2 rfl) ?_
          refine lv_iconst (v := 1) hx hb dL_isStep_328 (by decide) ?_
          refine lv_isub hx hb dL_isStep_329 ?_
          cases hf
          exact K_74 _ _ hP hD hS _ (lv_sub hl [] rfl)
        · have hf := ite_t hf c_76
          refine lv_iconst (v := -1) hx hb dL_isStep_322 (by decide) ?_
          refine lv_goto (tgt := 330) hx hb dL_isStep_323 (by decide) ?_
          cases hf
          exact K_74 _ _ hP hD hS _ (lv_sub hl [] rfl)
    refine lv_tableIn (tgt := 294) hx hb dL_isStep_27 (by rw [c_64]; decide) (by rw [c_64]; decide) (by rw [c_64]; rfl) (by decide) K_65
  have hf := ite_f hf c_64
  have nc_64_7 := c_64
  by_cases c_78 : r_6 = 8
  · have hf := ite_t hf c_78
    have K_79 : W p l e rm_L_isStep s m ([.ref (a 0), .ref (b 0), .int p2] : List Value).toArray below meth c H locs 0 0 (MQ below (mQi D (mTY cI cC cT) out A (List.flatten [(FS cI cC cT a o_u), (FS cI cC cT b o_v)])) ([.ref (a 0), .ref (b 0), .int p2] : List Value).toArray s 0 0 A) (F0 m 339 ls []) := by
      refine lv_aload_n hx hb dL_isStep_339 rfl (lv_at hl 3 rfl) ?_
      refine lv_aload_n hx hb dL_isStep_340 rfl (lv_at hl 3 rfl) ?_
      refine lv_iload hx hb dL_isStep_341 (lv_at hl 0 rfl) ?_
      refine lv_iconst (v := 0) hx hb dL_isStep_343 (by decide) ?_
      obtain ⟨⟨r_80, u_81⟩, q_82, hf⟩ := bnd hf
      refine mGoiS (segs := [(FS cI cC cT a u_2), (FS cI cC cT b v)]) (wcs := [(FS cI cC cT a u_2)]) (w1s := [(FS cI cC cT a u_81)]) (w2s := [(FS cI cC cT a u_81), (FS cI cC cT b v)]) flat1 flat1 (va_runV (As := [.int r_4, .int 0]) (rest := [.ref (a 0)]) ⟨hx, hb, hml, hown, hts⟩ (c_Y5_row l D cI cC cT a u_2 H.size r_4 0 r_80 u_81 q_82) (cwV 2 hts gL_isStep_X5_row rfl rfl rfl (by decide +kernel) ⟨Nat.le_of_ble_eq_true rfl, Nat.le_of_ble_eq_true rfl⟩) (mPreVS [(FS cI cC cT a u_2)] flat1 hP hD hK hN [0] rfl (by decide) (va_recv hK (sP hP 0 rfl) (ci := 5) (q0 := 0) rfl (FS0 cI cC cT a u_2))) rfl rfl hl.1 rfl (lv_room (Nat.le_of_ble_eq_true rfl)) dL_isStep_344 ⟨Nat.le_of_ble_eq_true rfl, Nat.le_of_ble_eq_true rfl⟩) hP hD hS hA [0] rfl rfl rfl rfl (fun H locs hP hD hS => ?_)
      refine lv_iconst (v := 0) hx hb dL_isStep_347 (by decide) ?_
      obtain ⟨⟨r_83, u_84⟩, q_85, hf⟩ := bnd hf
      refine mGoiS (segs := [(FS cI cC cT a u_81), (FS cI cC cT b v)]) (wcs := [(FS cI cC cT a u_81)]) (w1s := [(FS cI cC cT a u_84)]) (w2s := [(FS cI cC cT a u_84), (FS cI cC cT b v)]) flat1 flat1 (va_runV (As := [.int r_80, .int 0]) (rest := []) ⟨hx, hb, hml, hown, hts⟩ (c_Y5_key l D cI cC cT a u_81 H.size r_80 0 r_83 u_84 q_85) (cwV 2 hts gL_isStep_X5_key rfl rfl rfl (by decide +kernel) ⟨Nat.le_of_ble_eq_true rfl, Nat.le_of_ble_eq_true rfl⟩) (mPreVS [(FS cI cC cT a u_81)] flat1 hP hD hK hN [0] rfl (by decide) (va_recv hK (sP hP 0 rfl) (ci := 5) (q0 := 0) rfl (FS0 cI cC cT a u_81))) rfl rfl hl.1 rfl (lv_room (Nat.le_of_ble_eq_true rfl)) dL_isStep_348 ⟨Nat.le_of_ble_eq_true rfl, Nat.le_of_ble_eq_true rfl⟩) hP hD hS hA [0] rfl rfl rfl rfl (fun H locs hP hD hS => ?_)
      refine lv_istore (lv' := [(6, .int r_83), (5, .int r_4), (4, .int r_1), (3, .int (p2 >>> (4 &&& 31))), (0, .ref (a 0)), (1, .ref (b 0)), (2, .int p2)]) hx hb dL_isStep_351 hl (by decide) rfl (fun ls hl => ?_)
      refine lv_aload_n hx hb dL_isStep_353 rfl (lv_at hl 4 rfl) ?_
      refine lv_iload hx hb dL_isStep_354 (lv_at hl 1 rfl) ?_
      obtain ⟨⟨r_86, u_87⟩, q_88, hf⟩ := bnd hf
      refine mGoiS (segs := [(FS cI cC cT a u_84), (FS cI cC cT b v)]) (wcs := [(FS cI cC cT a u_84)]) (w1s := [(FS cI cC cT a u_87)]) (w2s := [(FS cI cC cT a u_87), (FS cI cC cT b v)]) flat1 flat1 (va_runV (As := [.int r_4]) (rest := []) ⟨hx, hb, hml, hown, hts⟩ (c_Y5_mend l D cI cC cT a u_84 H.size r_4 r_86 u_87 q_88) (cwV 1 hts gL_isStep_X5_mend rfl rfl rfl (by decide +kernel) ⟨Nat.le_of_ble_eq_true rfl, Nat.le_of_ble_eq_true rfl⟩) (mPreVS [(FS cI cC cT a u_84)] flat1 hP hD hK hN [0] rfl (by decide) (va_recv hK (sP hP 0 rfl) (ci := 5) (q0 := 0) rfl (FS0 cI cC cT a u_84))) rfl rfl hl.1 rfl (lv_room (Nat.le_of_ble_eq_true rfl)) dL_isStep_356 ⟨Nat.le_of_ble_eq_true rfl, Nat.le_of_ble_eq_true rfl⟩) hP hD hS hA [0] rfl rfl rfl rfl (fun H locs hP hD hS => ?_)
      refine lv_istore (lv' := [(7, .int r_86), (6, .int r_83), (5, .int r_4), (4, .int r_1), (3, .int (p2 >>> (4 &&& 31))), (0, .ref (a 0)), (1, .ref (b 0)), (2, .int p2)]) hx hb dL_isStep_359 hl (by decide) rfl (fun ls hl => ?_)
      refine lv_iload hx hb dL_isStep_361 (lv_at hl 0 rfl) ?_
      refine lv_aload_n hx hb dL_isStep_363 rfl (lv_at hl 6 rfl) ?_
      refine lv_iload hx hb dL_isStep_364 (lv_at hl 2 rfl) ?_
      obtain ⟨⟨r_89, v_90⟩, q_91, hf⟩ := bnd hf
      refine mGoiS (segs := [(FS cI cC cT a u_87), (FS cI cC cT b v)]) (wcs := [(FS cI cC cT b v)]) (w1s := [(FS cI cC cT b v_90)]) (w2s := [(FS cI cC cT a u_87), (FS cI cC cT b v_90)]) flat1 flat1 (va_runV (As := [.int r_4]) (rest := [.int r_86]) ⟨hx, hb, hml, hown, hts⟩ (c_Y5_mend l D cI cC cT b v H.size r_4 r_89 v_90 q_91) (cwV 1 hts gL_isStep_X5_mend rfl rfl rfl (by decide +kernel) ⟨Nat.le_of_ble_eq_true rfl, Nat.le_of_ble_eq_true rfl⟩) (mPreVS [(FS cI cC cT b v)] flat1 hP hD hK hN [1] rfl (by decide) (va_recv hK (sP hP 1 rfl) (ci := 5) (q0 := 0) rfl (FS0 cI cC cT b v))) rfl rfl hl.1 rfl (lv_room (Nat.le_of_ble_eq_true rfl)) dL_isStep_366 ⟨Nat.le_of_ble_eq_true rfl, Nat.le_of_ble_eq_true rfl⟩) hP hD hS hA [1] rfl rfl rfl rfl (fun H locs hP hD hS => ?_)
      refine lv_icmp_ne (tgt := 435) hx hb dL_isStep_369 (by decide) (fun c_92 => ?_) (fun c_92 => ?_)
      · have hf := ite_f hf c_92
        refine lv_iconst (v := 0) hx hb dL_isStep_435 (by decide) ?_
        cases hf
        exact mZret hx hb hr rfl hlocks hP hD hK hS dL_isStep_436
      · have hf := ite_t hf c_92
        refine lv_iload hx hb dL_isStep_372 (lv_at hl 2 rfl) ?_
        refine lv_iload hx hb dL_isStep_374 (lv_at hl 3 rfl) ?_
        refine lv_icmp_ne (tgt := 388) hx hb dL_isStep_376 (by decide) (fun c_93 => ?_) (fun c_93 => ?_)
        · have hf := ite_f hf c_93
          refine lv_iload hx hb dL_isStep_388 (lv_at hl 0 rfl) ?_
          refine lv_iload hx hb dL_isStep_390 (lv_at hl 1 rfl) ?_
          refine lv_iconst (v := 1) hx hb dL_isStep_392 (by decide) ?_
          obtain ⟨x_94, q_96, hf⟩ := bnd hf
          have K_95 : ∀ (H : Heap) (locs : List Loc), va_P D vwCl (List.flatten [(FS cI cC cT a u_87), (FS cI cC cT b v_90)]) H → va_D A (List.flatten [(FS cI cC cT a u_87), (FS cI cC cT b v_90)]) → va_S A s.heap H locs → ∀ (ls : Array Slot), lv_has ls 12 [(0, .ref (a 0)), (4, .int r_1), (7, .int r_86)] → W p l e rm_L_isStep s m ([.ref (a 0), .ref (b 0), .int p2] : List Value).toArray below meth c H locs 0 0 (MQ below (mQi D (mTY cI cC cT) out A (List.flatten [(FS cI cC cT a o_u), (FS cI cC cT b o_v)])) ([.ref (a 0), .ref (b 0), .int p2] : List Value).toArray s 0 0 A) (F0 m 405 ls [.int x_94, .int r_86]) := by
            intro H locs hP hD hS ls hl
            refine lv_icmp_ne (tgt := 435) hx hb dL_isStep_405 (by decide) (fun c_98 => ?_) (fun c_98 => ?_)
            · have hf := ite_f hf c_98
              refine lv_iconst (v := 0) hx hb dL_isStep_435 (by decide) ?_
              cases hf
              exact mZret hx hb hr rfl hlocks hP hD hK hS dL_isStep_436
            · have hf := ite_t hf c_98
              refine lv_aload_n hx hb dL_isStep_408 rfl (lv_at hl 0 rfl) ?_
              refine lv_iconst (v := 0) hx hb dL_isStep_409 (by decide) ?_
              obtain ⟨⟨r_99, u_100⟩, q_101, hf⟩ := bnd hf
              refine mGoiS (segs := [(FS cI cC cT a u_87), (FS cI cC cT b v_90)]) (wcs := [(FS cI cC cT a u_87)]) (w1s := [(FS cI cC cT a u_100)]) (w2s := [(FS cI cC cT a u_100), (FS cI cC cT b v_90)]) flat1 flat1 (va_runV (As := [.int 0]) (rest := []) ⟨hx, hb, hml, hown, hts⟩ (c_Y5_count l D cI cC cT a u_87 H.size 0 r_99 u_100 q_101) (cwV 1 hts gL_isStep_X5_count rfl rfl rfl (by decide +kernel) ⟨Nat.le_of_ble_eq_true rfl, Nat.le_of_ble_eq_true rfl⟩) (mPreVS [(FS cI cC cT a u_87)] flat1 hP hD hK hN [0] rfl (by decide) (va_recv hK (sP hP 0 rfl) (ci := 5) (q0 := 0) rfl (FS0 cI cC cT a u_87))) rfl rfl hl.1 rfl (lv_room (Nat.le_of_ble_eq_true rfl)) dL_isStep_410 ⟨Nat.le_of_ble_eq_true rfl, Nat.le_of_ble_eq_true rfl⟩) hP hD hS hA [0] rfl rfl rfl rfl (fun H locs hP hD hS => ?_)
              refine lv_iload hx hb dL_isStep_413 (lv_at hl 2 rfl) ?_
              obtain ⟨x_102, q_104, hf⟩ := bnd hf
              have K_103 : ∀ (H : Heap) (locs : List Loc), va_P D vwCl (List.flatten [(FS cI cC cT a u_100), (FS cI cC cT b v_90)]) H → va_D A (List.flatten [(FS cI cC cT a u_100), (FS cI cC cT b v_90)]) → va_S A s.heap H locs → ∀ (ls : Array Slot), lv_has ls 12 [] → W p l e rm_L_isStep s m ([.ref (a 0), .ref (b 0), .int p2] : List Value).toArray below meth c H locs 0 0 (MQ below (mQi D (mTY cI cC cT) out A (List.flatten [(FS cI cC cT a o_u), (FS cI cC cT b o_v)])) ([.ref (a 0), .ref (b 0), .int p2] : List Value).toArray s 0 0 A) (F0 m 428 ls [.int x_102, .int r_99]) := by
                intro H locs hP hD hS ls hl
                refine lv_icmp_ne (tgt := 435) hx hb dL_isStep_428 (by decide) (fun c_106 => ?_) (fun c_106 => ?_)
                · have hf := ite_f hf c_106
                  refine lv_iconst (v := 0) hx hb dL_isStep_435 (by decide) ?_
                  cases hf
                  exact mZret hx hb hr rfl hlocks hP hD hK hS dL_isStep_436
                · have hf := ite_t hf c_106
                  refine lv_iconst (v := 1) hx hb dL_isStep_431 (by decide) ?_
                  refine lv_goto (tgt := 436) hx hb dL_isStep_432 (by decide) ?_
                  cases hf
                  exact mZret hx hb hr rfl hlocks hP hD hK hS dL_isStep_436
              have hf := q_104
              refine lv_if_ge (tgt := 423) hx hb dL_isStep_415 (by decide) (fun c_105 => ?_) (fun c_105 => ?_)
              · have hf := ite_t hf c_105
                refine lv_iload hx hb dL_isStep_423 (lv_at hl 1 rfl) ?_
                refine lv_iload hx hb dL_isStep_425 (lv_at hl 2 rfl) ?_
                refine lv_isub hx hb dL_isStep_427 ?_
                cases hf
                exact K_103 _ _ hP hD hS _ (lv_sub hl [] rfl)
              · have hf := ite_f hf c_105
                refine lv_iload hx hb dL_isStep_418 (lv_at hl 1 rfl) ?_
                refine lv_goto (tgt := 428) hx hb dL_isStep_420 (by decide) ?_
                cases hf
                exact K_103 _ _ hP hD hS _ (lv_sub hl [] rfl)
          have hf := q_96
          refine lv_icmp_ne (tgt := 401) hx hb dL_isStep_393 (by decide) (fun c_97 => ?_) (fun c_97 => ?_)
          · have hf := ite_f hf c_97
            refine lv_iload hx hb dL_isStep_401 (lv_at hl 1 rfl) ?_
            refine lv_iconst (v := 1) hx hb dL_isStep_403 (by decide) ?_
            refine lv_isub hx hb dL_isStep_404 ?_
            cases hf
            exact K_95 _ _ hP hD hS _ (lv_sub hl [5, 3, 0] rfl)
          · have hf := ite_t hf c_97
            refine lv_bipush (v := -5) hx hb dL_isStep_396 (by decide) ?_
            refine lv_goto (tgt := 405) hx hb dL_isStep_398 (by decide) ?_
            cases hf
            exact K_95 _ _ hP hD hS _ (lv_sub hl [5, 3, 0] rfl)
        · have hf := ite_t hf c_93
          refine lv_iload hx hb dL_isStep_379 (lv_at hl 0 rfl) ?_
          refine lv_iconst (v := -1) hx hb dL_isStep_381 (by decide) ?_
          refine lv_icmp_ne (tgt := 435) hx hb dL_isStep_382 (by decide) (fun c_107 => ?_) (fun c_107 => ?_)
          · have hf := ite_f hf c_107
            refine lv_iconst (v := 0) hx hb dL_isStep_435 (by decide) ?_
            cases hf
            exact mZret hx hb hr rfl hlocks hP hD hK hS dL_isStep_436
          · have hf := ite_t hf c_107
            refine lv_goto (tgt := 431) hx hb dL_isStep_385 (by decide) ?_
            refine lv_iconst (v := 1) hx hb dL_isStep_431 (by decide) ?_
            refine lv_goto (tgt := 436) hx hb dL_isStep_432 (by decide) ?_
            cases hf
            exact mZret hx hb hr rfl hlocks hP hD hK hS dL_isStep_436
    refine lv_tableIn (tgt := 339) hx hb dL_isStep_27 (by rw [c_78]; decide) (by rw [c_78]; decide) (by rw [c_78]; rfl) (by decide) K_79
  have hf := ite_f hf c_78
  have nc_78_8 := c_78
  by_cases c_108 : r_6 = 9
  · have hf := ite_t hf c_108
    have K_109 : W p l e rm_L_isStep s m ([.ref (a 0), .ref (b 0), .int p2] : List Value).toArray below meth c H locs 0 0 (MQ below (mQi D (mTY cI cC cT) out A (List.flatten [(FS cI cC cT a o_u), (FS cI cC cT b o_v)])) ([.ref (a 0), .ref (b 0), .int p2] : List Value).toArray s 0 0 A) (F0 m 437 ls []) := by
      refine lv_iload_n hx hb dL_isStep_437 rfl (lv_at hl 2 rfl) ?_
      refine lv_iconst (v := 2) hx hb dL_isStep_438 (by decide) ?_
      obtain ⟨r_110, q_111, hf⟩ := bnd hf
      refine mGoiS (segs := [(FS cI cC cT a u_2), (FS cI cC cT b v)]) (wcs := []) (w1s := []) (w2s := [(FS cI cC cT a u_2), (FS cI cC cT b v)]) rfl rfl (va_runS (As := [.int (p2 >>> (4 &&& 31)), .int 2]) (rest := []) ⟨hx, hb, hml, hown, hts⟩ (c_L_up l D cI cC cT H.size (p2 >>> (4 &&& 31)) 2 r_110 q_111) (va_cwS 2 hts gL_isStep_L_up rfl rfl rfl (by decide +kernel) ⟨Nat.le_of_ble_eq_true rfl, Nat.le_of_ble_eq_true rfl⟩) (mPreSS [] rfl hP hD hK hN [] rfl (by decide)) rfl rfl hl.1 rfl (lv_room (Nat.le_of_ble_eq_true rfl)) dL_isStep_439 ⟨Nat.le_of_ble_eq_true rfl, Nat.le_of_ble_eq_true rfl⟩) hP hD hS hA [] rfl rfl rfl rfl (fun H locs hP hD hS => ?_)
      obtain ⟨x_112, q_114, hf⟩ := bnd hf
      have K_113 : ∀ (H : Heap) (locs : List Loc), va_P D vwCl (List.flatten [(FS cI cC cT a u_2), (FS cI cC cT b v)]) H → va_D A (List.flatten [(FS cI cC cT a u_2), (FS cI cC cT b v)]) → va_S A s.heap H locs → ∀ (ls : Array Slot), lv_has ls 12 [(0, .ref (a 0)), (1, .ref (b 0))] → W p l e rm_L_isStep s m ([.ref (a 0), .ref (b 0), .int p2] : List Value).toArray below meth c H locs 0 0 (MQ below (mQi D (mTY cI cC cT) out A (List.flatten [(FS cI cC cT a o_u), (FS cI cC cT b o_v)])) ([.ref (a 0), .ref (b 0), .int p2] : List Value).toArray s 0 0 A) (F0 m 450 ls [.int x_112]) := by
        intro H locs hP hD hS ls hl
        refine lv_istore (lv' := [(6, .int x_112), (0, .ref (a 0)), (1, .ref (b 0))]) hx hb dL_isStep_450 hl (by decide) rfl (fun ls hl => ?_)
        refine lv_aload_n hx hb dL_isStep_452 rfl (lv_at hl 1 rfl) ?_
        refine lv_bipush (v := 9) hx hb dL_isStep_453 (by decide) ?_
        obtain ⟨⟨r_116, u_117⟩, q_118, hf⟩ := bnd hf
        refine mGoiS (segs := [(FS cI cC cT a u_2), (FS cI cC cT b v)]) (wcs := [(FS cI cC cT a u_2)]) (w1s := [(FS cI cC cT a u_117)]) (w2s := [(FS cI cC cT a u_117), (FS cI cC cT b v)]) flat1 flat1 (va_runV (As := [.int 9]) (rest := []) ⟨hx, hb, hml, hown, hts⟩ (c_Y5_count l D cI cC cT a u_2 H.size 9 r_116 u_117 q_118) (cwV 1 hts gL_isStep_X5_count rfl rfl rfl (by decide +kernel) ⟨Nat.le_of_ble_eq_true rfl, Nat.le_of_ble_eq_true rfl⟩) (mPreVS [(FS cI cC cT a u_2)] flat1 hP hD hK hN [0] rfl (by decide) (va_recv hK (sP hP 0 rfl) (ci := 5) (q0 := 0) rfl (FS0 cI cC cT a u_2))) rfl rfl hl.1 rfl (lv_room (Nat.le_of_ble_eq_true rfl)) dL_isStep_455 ⟨Nat.le_of_ble_eq_true rfl, Nat.le_of_ble_eq_true rfl⟩) hP hD hS hA [0] rfl rfl rfl rfl (fun H locs hP hD hS => ?_)
        refine lv_iconst (v := 1) hx hb dL_isStep_458 (by decide) ?_
        obtain ⟨x_119, q_121, hf⟩ := bnd hf
        have K_120 : ∀ (H : Heap) (locs : List Loc), va_P D vwCl (List.flatten [(FS cI cC cT a u_117), (FS cI cC cT b v)]) H → va_D A (List.flatten [(FS cI cC cT a u_117), (FS cI cC cT b v)]) → va_S A s.heap H locs → ∀ (ls : Array Slot), lv_has ls 12 [(0, .ref (a 0)), (1, .ref (b 0)), (6, .int x_112)] → W p l e rm_L_isStep s m ([.ref (a 0), .ref (b 0), .int p2] : List Value).toArray below meth c H locs 0 0 (MQ below (mQi D (mTY cI cC cT) out A (List.flatten [(FS cI cC cT a o_u), (FS cI cC cT b o_v)])) ([.ref (a 0), .ref (b 0), .int p2] : List Value).toArray s 0 0 A) (F0 m 467 ls [.int x_119]) := by
          intro H locs hP hD hS ls hl
          refine lv_istore (lv' := [(7, .int x_119), (0, .ref (a 0)), (1, .ref (b 0)), (6, .int x_112)]) hx hb dL_isStep_467 hl (by decide) rfl (fun ls hl => ?_)
          refine lv_aload_n hx hb dL_isStep_469 rfl (lv_at hl 1 rfl) ?_
          refine lv_iload hx hb dL_isStep_470 (lv_at hl 3 rfl) ?_
          obtain ⟨⟨r_123, u_124⟩, q_125, hf⟩ := bnd hf
          refine mGoiS (segs := [(FS cI cC cT a u_117), (FS cI cC cT b v)]) (wcs := [(FS cI cC cT a u_117)]) (w1s := [(FS cI cC cT a u_124)]) (w2s := [(FS cI cC cT a u_124), (FS cI cC cT b v)]) flat1 flat1 (va_runV (As := [.int x_112]) (rest := []) ⟨hx, hb, hml, hown, hts⟩ (c_Y5_prefer l D cI cC cT a u_117 H.size x_112 r_123 u_124 q_125) (cwV 1 hts gL_isStep_X5_prefer rfl rfl rfl (by decide +kernel) ⟨Nat.le_of_ble_eq_true rfl, Nat.le_of_ble_eq_true rfl⟩) (mPreVS [(FS cI cC cT a u_117)] flat1 hP hD hK hN [0] rfl (by decide) (va_recv hK (sP hP 0 rfl) (ci := 5) (q0 := 0) rfl (FS0 cI cC cT a u_117))) rfl rfl hl.1 rfl (lv_room (Nat.le_of_ble_eq_true rfl)) dL_isStep_472 ⟨Nat.le_of_ble_eq_true rfl, Nat.le_of_ble_eq_true rfl⟩) hP hD hS hA [0] rfl rfl rfl rfl (fun H locs hP hD hS => ?_)
          refine lv_istore (lv' := [(8, .int r_123), (7, .int x_119), (0, .ref (a 0)), (1, .ref (b 0)), (6, .int x_112)]) hx hb dL_isStep_475 hl (by decide) rfl (fun ls hl => ?_)
          refine lv_iload hx hb dL_isStep_477 (lv_at hl 0 rfl) ?_
          refine lv_aload_n hx hb dL_isStep_479 rfl (lv_at hl 3 rfl) ?_
          refine lv_iload hx hb dL_isStep_480 (lv_at hl 4 rfl) ?_
          obtain ⟨⟨r_126, v_127⟩, q_128, hf⟩ := bnd hf
          refine mGoiS (segs := [(FS cI cC cT a u_124), (FS cI cC cT b v)]) (wcs := [(FS cI cC cT b v)]) (w1s := [(FS cI cC cT b v_127)]) (w2s := [(FS cI cC cT a u_124), (FS cI cC cT b v_127)]) flat1 flat1 (va_runV (As := [.int x_112]) (rest := [.int r_123]) ⟨hx, hb, hml, hown, hts⟩ (c_Y5_prefer l D cI cC cT b v H.size x_112 r_126 v_127 q_128) (cwV 1 hts gL_isStep_X5_prefer rfl rfl rfl (by decide +kernel) ⟨Nat.le_of_ble_eq_true rfl, Nat.le_of_ble_eq_true rfl⟩) (mPreVS [(FS cI cC cT b v)] flat1 hP hD hK hN [1] rfl (by decide) (va_recv hK (sP hP 1 rfl) (ci := 5) (q0 := 0) rfl (FS0 cI cC cT b v))) rfl rfl hl.1 rfl (lv_room (Nat.le_of_ble_eq_true rfl)) dL_isStep_482 ⟨Nat.le_of_ble_eq_true rfl, Nat.le_of_ble_eq_true rfl⟩) hP hD hS hA [1] rfl rfl rfl rfl (fun H locs hP hD hS => ?_)
          refine lv_icmp_ne (tgt := 534) hx hb dL_isStep_485 (by decide) (fun c_129 => ?_) (fun c_129 => ?_)
          · have hf := ite_f hf c_129
            refine lv_iconst (v := 0) hx hb dL_isStep_534 (by decide) ?_
            cases hf
            exact mZret hx hb hr rfl hlocks hP hD hK hS dL_isStep_535
          · have hf := ite_t hf c_129
            refine lv_iload hx hb dL_isStep_488 (lv_at hl 0 rfl) ?_
            refine lv_iload hx hb dL_isStep_490 (lv_at hl 1 rfl) ?_
            refine lv_iload hx hb dL_isStep_492 (lv_at hl 4 rfl) ?_
            obtain ⟨⟨x_130, u_131⟩, q_133, hf⟩ := bnd hf
            have K_132 : ∀ (H : Heap) (locs : List Loc), va_P D vwCl (List.flatten [(FS cI cC cT a u_131), (FS cI cC cT b v_127)]) H → va_D A (List.flatten [(FS cI cC cT a u_131), (FS cI cC cT b v_127)]) → va_S A s.heap H locs → ∀ (ls : Array Slot), lv_has ls 12 [(0, .ref (a 0)), (6, .int x_112)] → W p l e rm_L_isStep s m ([.ref (a 0), .ref (b 0), .int p2] : List Value).toArray below meth c H locs 0 0 (MQ below (mQi D (mTY cI cC cT) out A (List.flatten [(FS cI cC cT a o_u), (FS cI cC cT b o_v)])) ([.ref (a 0), .ref (b 0), .int p2] : List Value).toArray s 0 0 A) (F0 m 507 ls [.int x_130, .int r_123]) := by
              intro H locs hP hD hS ls hl
              refine lv_icmp_ne (tgt := 534) hx hb dL_isStep_507 (by decide) (fun c_138 => ?_) (fun c_138 => ?_)
              · have hf := ite_f hf c_138
                refine lv_iconst (v := 0) hx hb dL_isStep_534 (by decide) ?_
                cases hf
                exact mZret hx hb hr rfl hlocks hP hD hK hS dL_isStep_535
              · have hf := ite_t hf c_138
                refine lv_aload_n hx hb dL_isStep_510 rfl (lv_at hl 0 rfl) ?_
                refine lv_bipush (v := 9) hx hb dL_isStep_511 (by decide) ?_
                obtain ⟨⟨r_139, u_140⟩, q_141, hf⟩ := bnd hf
                refine mGoiS (segs := [(FS cI cC cT a u_131), (FS cI cC cT b v_127)]) (wcs := [(FS cI cC cT a u_131)]) (w1s := [(FS cI cC cT a u_140)]) (w2s := [(FS cI cC cT a u_140), (FS cI cC cT b v_127)]) flat1 flat1 (va_runV (As := [.int 9]) (rest := []) ⟨hx, hb, hml, hown, hts⟩ (c_Y5_count l D cI cC cT a u_131 H.size 9 r_139 u_140 q_141) (cwV 1 hts gL_isStep_X5_count rfl rfl rfl (by decide +kernel) ⟨Nat.le_of_ble_eq_true rfl, Nat.le_of_ble_eq_true rfl⟩) (mPreVS [(FS cI cC cT a u_131)] flat1 hP hD hK hN [0] rfl (by decide) (va_recv hK (sP hP 0 rfl) (ci := 5) (q0 := 0) rfl (FS0 cI cC cT a u_131))) rfl rfl hl.1 rfl (lv_room (Nat.le_of_ble_eq_true rfl)) dL_isStep_513 ⟨Nat.le_of_ble_eq_true rfl, Nat.le_of_ble_eq_true rfl⟩) hP hD hS hA [0] rfl rfl rfl rfl (fun H locs hP hD hS => ?_)
                refine lv_iconst (v := 1) hx hb dL_isStep_516 (by decide) ?_
                obtain ⟨x_142, q_144, hf⟩ := bnd hf
                have K_143 : ∀ (H : Heap) (locs : List Loc), va_P D vwCl (List.flatten [(FS cI cC cT a u_140), (FS cI cC cT b v_127)]) H → va_D A (List.flatten [(FS cI cC cT a u_140), (FS cI cC cT b v_127)]) → va_S A s.heap H locs → ∀ (ls : Array Slot), lv_has ls 12 [(6, .int x_112)] → W p l e rm_L_isStep s m ([.ref (a 0), .ref (b 0), .int p2] : List Value).toArray below meth c H locs 0 0 (MQ below (mQi D (mTY cI cC cT) out A (List.flatten [(FS cI cC cT a o_u), (FS cI cC cT b o_v)])) ([.ref (a 0), .ref (b 0), .int p2] : List Value).toArray s 0 0 A) (F0 m 525 ls [.int x_142]) := by
                  intro H locs hP hD hS ls hl
                  refine lv_iload hx hb dL_isStep_525 (lv_at hl 0 rfl) ?_
                  refine lv_icmp_ne (tgt := 534) hx hb dL_isStep_527 (by decide) (fun c_146 => ?_) (fun c_146 => ?_)
                  · have hf := ite_f hf c_146
                    refine lv_iconst (v := 0) hx hb dL_isStep_534 (by decide) ?_
                    cases hf
                    exact mZret hx hb hr rfl hlocks hP hD hK hS dL_isStep_535
                  · have hf := ite_t hf c_146
                    refine lv_iconst (v := 1) hx hb dL_isStep_530 (by decide) ?_
                    refine lv_goto (tgt := 535) hx hb dL_isStep_531 (by decide) ?_
                    cases hf
                    exact mZret hx hb hr rfl hlocks hP hD hK hS dL_isStep_535
                have hf := q_144
                refine lv_icmp_ne (tgt := 524) hx hb dL_isStep_517 (by decide) (fun c_145 => ?_) (fun c_145 => ?_)
                · have hf := ite_f hf c_145
                  refine lv_iconst (v := 0) hx hb dL_isStep_524 (by decide) ?_
                  cases hf
                  exact K_143 _ _ hP hD hS _ (lv_sub hl [1] rfl)
                · have hf := ite_t hf c_145
                  refine lv_iconst (v := 1) hx hb dL_isStep_520 (by decide) ?_
                  refine lv_goto (tgt := 525) hx hb dL_isStep_521 (by decide) ?_
                  cases hf
                  exact K_143 _ _ hP hD hS _ (lv_sub hl [1] rfl)
            have hf := q_133
            refine lv_icmp_ne (tgt := 502) hx hb dL_isStep_494 (by decide) (fun c_134 => ?_) (fun c_134 => ?_)
            · have hf := ite_f hf c_134
              refine lv_aload_n hx hb dL_isStep_502 rfl (lv_at hl 2 rfl) ?_
              refine lv_iconst (v := 3) hx hb dL_isStep_503 (by decide) ?_
              obtain ⟨⟨r_135, u_136⟩, q_137, hf⟩ := bnd hf
              refine mGoiS (segs := [(FS cI cC cT a u_124), (FS cI cC cT b v_127)]) (wcs := [(FS cI cC cT a u_124)]) (w1s := [(FS cI cC cT a u_136)]) (w2s := [(FS cI cC cT a u_136), (FS cI cC cT b v_127)]) flat1 flat1 (va_runV (As := [.int 3]) (rest := [.int r_123]) ⟨hx, hb, hml, hown, hts⟩ (c_Y5_count l D cI cC cT a u_124 H.size 3 r_135 u_136 q_137) (cwV 1 hts gL_isStep_X5_count rfl rfl rfl (by decide +kernel) ⟨Nat.le_of_ble_eq_true rfl, Nat.le_of_ble_eq_true rfl⟩) (mPreVS [(FS cI cC cT a u_124)] flat1 hP hD hK hN [0] rfl (by decide) (va_recv hK (sP hP 0 rfl) (ci := 5) (q0 := 0) rfl (FS0 cI cC cT a u_124))) rfl rfl hl.1 rfl (lv_room (Nat.le_of_ble_eq_true rfl)) dL_isStep_504 ⟨Nat.le_of_ble_eq_true rfl, Nat.le_of_ble_eq_true rfl⟩) hP hD hS hA [0] rfl rfl rfl rfl (fun H locs hP hD hS => ?_)
              cases hf
              exact K_132 _ _ hP hD hS _ (lv_sub hl [2, 4] rfl)
            · have hf := ite_t hf c_134
              refine lv_bipush (v := -5) hx hb dL_isStep_497 (by decide) ?_
              refine lv_goto (tgt := 507) hx hb dL_isStep_499 (by decide) ?_
              cases hf
              exact K_132 _ _ hP hD hS _ (lv_sub hl [2, 4] rfl)
        have hf := q_121
        refine lv_icmp_ne (tgt := 466) hx hb dL_isStep_459 (by decide) (fun c_122 => ?_) (fun c_122 => ?_)
        · have hf := ite_f hf c_122
          refine lv_iconst (v := 0) hx hb dL_isStep_466 (by decide) ?_
          cases hf
          exact K_120 _ _ hP hD hS _ (lv_sub hl [1, 2, 0] rfl)
        · have hf := ite_t hf c_122
          refine lv_iconst (v := 1) hx hb dL_isStep_462 (by decide) ?_
          refine lv_goto (tgt := 467) hx hb dL_isStep_463 (by decide) ?_
          cases hf
          exact K_120 _ _ hP hD hS _ (lv_sub hl [1, 2, 0] rfl)
      have hf := q_114
      refine lv_if_ne (tgt := 449) hx hb dL_isStep_442 (by decide) (fun c_115 => ?_) (fun c_115 => ?_)
      · have hf := ite_f hf c_115
        refine lv_iconst (v := 0) hx hb dL_isStep_449 (by decide) ?_
        cases hf
        exact K_113 _ _ hP hD hS _ (lv_sub hl [3, 4] rfl)
      · have hf := ite_t hf c_115
        refine lv_iconst (v := 1) hx hb dL_isStep_445 (by decide) ?_
        refine lv_goto (tgt := 450) hx hb dL_isStep_446 (by decide) ?_
        cases hf
        exact K_113 _ _ hP hD hS _ (lv_sub hl [3, 4] rfl)
    refine lv_tableIn (tgt := 437) hx hb dL_isStep_27 (by rw [c_108]; decide) (by rw [c_108]; decide) (by rw [c_108]; rfl) (by decide) K_109
  have hf := ite_f hf c_108
  have nc_108_9 := c_108
  by_cases c_147 : r_6 = 10
  · have hf := ite_t hf c_147
    have K_148 : W p l e rm_L_isStep s m ([.ref (a 0), .ref (b 0), .int p2] : List Value).toArray below meth c H locs 0 0 (MQ below (mQi D (mTY cI cC cT) out A (List.flatten [(FS cI cC cT a o_u), (FS cI cC cT b o_v)])) ([.ref (a 0), .ref (b 0), .int p2] : List Value).toArray s 0 0 A) (F0 m 536 ls []) := by
      refine lv_aload_n hx hb dL_isStep_536 rfl (lv_at hl 3 rfl) ?_
      refine lv_iconst (v := 1) hx hb dL_isStep_537 (by decide) ?_
      obtain ⟨⟨r_149, u_150⟩, q_151, hf⟩ := bnd hf
      refine mGoiS (segs := [(FS cI cC cT a u_2), (FS cI cC cT b v)]) (wcs := [(FS cI cC cT a u_2)]) (w1s := [(FS cI cC cT a u_150)]) (w2s := [(FS cI cC cT a u_150), (FS cI cC cT b v)]) flat1 flat1 (va_runV (As := [.int 1]) (rest := []) ⟨hx, hb, hml, hown, hts⟩ (c_Y5_count l D cI cC cT a u_2 H.size 1 r_149 u_150 q_151) (cwV 1 hts gL_isStep_X5_count rfl rfl rfl (by decide +kernel) ⟨Nat.le_of_ble_eq_true rfl, Nat.le_of_ble_eq_true rfl⟩) (mPreVS [(FS cI cC cT a u_2)] flat1 hP hD hK hN [0] rfl (by decide) (va_recv hK (sP hP 0 rfl) (ci := 5) (q0 := 0) rfl (FS0 cI cC cT a u_2))) rfl rfl hl.1 rfl (lv_room (Nat.le_of_ble_eq_true rfl)) dL_isStep_538 ⟨Nat.le_of_ble_eq_true rfl, Nat.le_of_ble_eq_true rfl⟩) hP hD hS hA [0] rfl rfl rfl rfl (fun H locs hP hD hS => ?_)
      refine lv_istore (lv' := [(6, .int r_149), (5, .int r_4), (4, .int r_1), (3, .int (p2 >>> (4 &&& 31))), (0, .ref (a 0)), (1, .ref (b 0)), (2, .int p2)]) hx hb dL_isStep_541 hl (by decide) rfl (fun ls hl => ?_)
      refine lv_iload_n hx hb dL_isStep_543 rfl (lv_at hl 3 rfl) ?_
      refine lv_iconst (v := 4) hx hb dL_isStep_544 (by decide) ?_
      obtain ⟨r_152, q_153, hf⟩ := bnd hf
      refine mGoiS (segs := [(FS cI cC cT a u_150), (FS cI cC cT b v)]) (wcs := []) (w1s := []) (w2s := [(FS cI cC cT a u_150), (FS cI cC cT b v)]) rfl rfl (va_runS (As := [.int (p2 >>> (4 &&& 31)), .int 4]) (rest := []) ⟨hx, hb, hml, hown, hts⟩ (c_L_up l D cI cC cT H.size (p2 >>> (4 &&& 31)) 4 r_152 q_153) (va_cwS 2 hts gL_isStep_L_up rfl rfl rfl (by decide +kernel) ⟨Nat.le_of_ble_eq_true rfl, Nat.le_of_ble_eq_true rfl⟩) (mPreSS [] rfl hP hD hK hN [] rfl (by decide)) rfl rfl hl.1 rfl (lv_room (Nat.le_of_ble_eq_true rfl)) dL_isStep_545 ⟨Nat.le_of_ble_eq_true rfl, Nat.le_of_ble_eq_true rfl⟩) hP hD hS hA [] rfl rfl rfl rfl (fun H locs hP hD hS => ?_)
      refine lv_if_le (tgt := 553) hx hb dL_isStep_548 (by decide) (fun c_154 => ?_) (fun c_154 => ?_)
      · have hf := ite_t hf c_154
        refine lv_aload_n hx hb dL_isStep_553 rfl (lv_at hl 4 rfl) ?_
        refine lv_iload_n hx hb dL_isStep_554 rfl (lv_at hl 3 rfl) ?_
        refine lv_iconst (v := 2) hx hb dL_isStep_555 (by decide) ?_
        refine lv_ishr hx hb dL_isStep_556 ?_
        refine lv_iconst (v := 3) hx hb dL_isStep_557 (by decide) ?_
        obtain ⟨r_155, q_156, hf⟩ := bnd hf
        refine mGoiS (segs := [(FS cI cC cT a u_150), (FS cI cC cT b v)]) (wcs := []) (w1s := []) (w2s := [(FS cI cC cT a u_150), (FS cI cC cT b v)]) rfl rfl (va_runS (As := [.int ((p2 >>> (4 &&& 31)) >>> (2 &&& 31)), .int 3]) (rest := [.ref (a 0)]) ⟨hx, hb, hml, hown, hts⟩ (c_L_up l D cI cC cT H.size ((p2 >>> (4 &&& 31)) >>> (2 &&& 31)) 3 r_155 q_156) (va_cwS 2 hts gL_isStep_L_up rfl rfl rfl (by decide +kernel) ⟨Nat.le_of_ble_eq_true rfl, Nat.le_of_ble_eq_true rfl⟩) (mPreSS [] rfl hP hD hK hN [] rfl (by decide)) rfl rfl hl.1 rfl (lv_room (Nat.le_of_ble_eq_true rfl)) dL_isStep_558 ⟨Nat.le_of_ble_eq_true rfl, Nat.le_of_ble_eq_true rfl⟩) hP hD hS hA [] rfl rfl rfl rfl (fun H locs hP hD hS => ?_)
        obtain ⟨⟨r_157, u_158⟩, q_159, hf⟩ := bnd hf
        refine mGoiS (segs := [(FS cI cC cT a u_150), (FS cI cC cT b v)]) (wcs := [(FS cI cC cT a u_150)]) (w1s := [(FS cI cC cT a u_158)]) (w2s := [(FS cI cC cT a u_158), (FS cI cC cT b v)]) flat1 flat1 (va_runV (As := [.int r_155]) (rest := []) ⟨hx, hb, hml, hown, hts⟩ (c_Y5_mendAll l D cI cC cT a u_150 H.size r_155 r_157 u_158 q_159) (cwV 1 hts gL_isStep_X5_mendAll rfl rfl rfl (by decide +kernel) ⟨Nat.le_of_ble_eq_true rfl, Nat.le_of_ble_eq_true rfl⟩) (mPreVS [(FS cI cC cT a u_150)] flat1 hP hD hK hN [0] rfl (by decide) (va_recv hK (sP hP 0 rfl) (ci := 5) (q0 := 0) rfl (FS0 cI cC cT a u_150))) rfl rfl hl.1 rfl (lv_room (Nat.le_of_ble_eq_true rfl)) dL_isStep_561 ⟨Nat.le_of_ble_eq_true rfl, Nat.le_of_ble_eq_true rfl⟩) hP hD hS hA [0] rfl rfl rfl rfl (fun H locs hP hD hS => ?_)
        refine lv_istore (lv' := [(7, .int r_157), (6, .int r_149), (5, .int r_4), (4, .int r_1), (3, .int (p2 >>> (4 &&& 31))), (0, .ref (a 0)), (1, .ref (b 0)), (2, .int p2)]) hx hb dL_isStep_564 hl (by decide) rfl (fun ls hl => ?_)
        refine lv_iload hx hb dL_isStep_566 (lv_at hl 0 rfl) ?_
        refine lv_aload_n hx hb dL_isStep_568 rfl (lv_at hl 6 rfl) ?_
        refine lv_iload_n hx hb dL_isStep_569 rfl (lv_at hl 4 rfl) ?_
        refine lv_iconst (v := 2) hx hb dL_isStep_570 (by decide) ?_
        refine lv_ishr hx hb dL_isStep_571 ?_
        refine lv_iconst (v := 3) hx hb dL_isStep_572 (by decide) ?_
        obtain ⟨r_160, q_161, hf⟩ := bnd hf
        refine mGoiS (segs := [(FS cI cC cT a u_158), (FS cI cC cT b v)]) (wcs := []) (w1s := []) (w2s := [(FS cI cC cT a u_158), (FS cI cC cT b v)]) rfl rfl (va_runS (As := [.int ((p2 >>> (4 &&& 31)) >>> (2 &&& 31)), .int 3]) (rest := [.ref (b 0), .int r_157]) ⟨hx, hb, hml, hown, hts⟩ (c_L_up l D cI cC cT H.size ((p2 >>> (4 &&& 31)) >>> (2 &&& 31)) 3 r_160 q_161) (va_cwS 2 hts gL_isStep_L_up rfl rfl rfl (by decide +kernel) ⟨Nat.le_of_ble_eq_true rfl, Nat.le_of_ble_eq_true rfl⟩) (mPreSS [] rfl hP hD hK hN [] rfl (by decide)) rfl rfl hl.1 rfl (lv_room (Nat.le_of_ble_eq_true rfl)) dL_isStep_573 ⟨Nat.le_of_ble_eq_true rfl, Nat.le_of_ble_eq_true rfl⟩) hP hD hS hA [] rfl rfl rfl rfl (fun H locs hP hD hS => ?_)
        obtain ⟨⟨r_162, v_163⟩, q_164, hf⟩ := bnd hf
        refine mGoiS (segs := [(FS cI cC cT a u_158), (FS cI cC cT b v)]) (wcs := [(FS cI cC cT b v)]) (w1s := [(FS cI cC cT b v_163)]) (w2s := [(FS cI cC cT a u_158), (FS cI cC cT b v_163)]) flat1 flat1 (va_runV (As := [.int r_160]) (rest := [.int r_157]) ⟨hx, hb, hml, hown, hts⟩ (c_Y5_mendAll l D cI cC cT b v H.size r_160 r_162 v_163 q_164) (cwV 1 hts gL_isStep_X5_mendAll rfl rfl rfl (by decide +kernel) ⟨Nat.le_of_ble_eq_true rfl, Nat.le_of_ble_eq_true rfl⟩) (mPreVS [(FS cI cC cT b v)] flat1 hP hD hK hN [1] rfl (by decide) (va_recv hK (sP hP 1 rfl) (ci := 5) (q0 := 0) rfl (FS0 cI cC cT b v))) rfl rfl hl.1 rfl (lv_room (Nat.le_of_ble_eq_true rfl)) dL_isStep_576 ⟨Nat.le_of_ble_eq_true rfl, Nat.le_of_ble_eq_true rfl⟩) hP hD hS hA [1] rfl rfl rfl rfl (fun H locs hP hD hS => ?_)
        refine lv_icmp_ne (tgt := 635) hx hb dL_isStep_579 (by decide) (fun c_165 => ?_) (fun c_165 => ?_)
        · have hf := ite_f hf c_165
          refine lv_iconst (v := 0) hx hb dL_isStep_635 (by decide) ?_
          cases hf
          exact mZret hx hb hr rfl hlocks hP hD hK hS dL_isStep_636
        · have hf := ite_t hf c_165
          refine lv_iload hx hb dL_isStep_582 (lv_at hl 0 rfl) ?_
          refine lv_iload hx hb dL_isStep_584 (lv_at hl 3 rfl) ?_
          refine lv_iload hx hb dL_isStep_586 (lv_at hl 1 rfl) ?_
          obtain ⟨x_166, q_168, hf⟩ := bnd hf
          have K_167 : ∀ (H : Heap) (locs : List Loc), va_P D vwCl (List.flatten [(FS cI cC cT a u_158), (FS cI cC cT b v_163)]) H → va_D A (List.flatten [(FS cI cC cT a u_158), (FS cI cC cT b v_163)]) → va_S A s.heap H locs → ∀ (ls : Array Slot), lv_has ls 12 [(0, .ref (a 0)), (6, .int r_149)] → W p l e rm_L_isStep s m ([.ref (a 0), .ref (b 0), .int p2] : List Value).toArray below meth c H locs 0 0 (MQ below (mQi D (mTY cI cC cT) out A (List.flatten [(FS cI cC cT a o_u), (FS cI cC cT b o_v)])) ([.ref (a 0), .ref (b 0), .int p2] : List Value).toArray s 0 0 A) (F0 m 601 ls [.int x_166, .int r_157]) := by
            intro H locs hP hD hS ls hl
            refine lv_icmp_ne (tgt := 635) hx hb dL_isStep_601 (by decide) (fun c_170 => ?_) (fun c_170 => ?_)
            · have hf := ite_f hf c_170
              refine lv_iconst (v := 0) hx hb dL_isStep_635 (by decide) ?_
              cases hf
              exact mZret hx hb hr rfl hlocks hP hD hK hS dL_isStep_636
            · have hf := ite_t hf c_170
              refine lv_aload_n hx hb dL_isStep_604 rfl (lv_at hl 0 rfl) ?_
              refine lv_iconst (v := 0) hx hb dL_isStep_605 (by decide) ?_
              obtain ⟨⟨r_171, u_172⟩, q_173, hf⟩ := bnd hf
              refine mGoiS (segs := [(FS cI cC cT a u_158), (FS cI cC cT b v_163)]) (wcs := [(FS cI cC cT a u_158)]) (w1s := [(FS cI cC cT a u_172)]) (w2s := [(FS cI cC cT a u_172), (FS cI cC cT b v_163)]) flat1 flat1 (va_runV (As := [.int 0]) (rest := []) ⟨hx, hb, hml, hown, hts⟩ (c_Y5_count l D cI cC cT a u_158 H.size 0 r_171 u_172 q_173) (cwV 1 hts gL_isStep_X5_count rfl rfl rfl (by decide +kernel) ⟨Nat.le_of_ble_eq_true rfl, Nat.le_of_ble_eq_true rfl⟩) (mPreVS [(FS cI cC cT a u_158)] flat1 hP hD hK hN [0] rfl (by decide) (va_recv hK (sP hP 0 rfl) (ci := 5) (q0 := 0) rfl (FS0 cI cC cT a u_158))) rfl rfl hl.1 rfl (lv_room (Nat.le_of_ble_eq_true rfl)) dL_isStep_606 ⟨Nat.le_of_ble_eq_true rfl, Nat.le_of_ble_eq_true rfl⟩) hP hD hS hA [0] rfl rfl rfl rfl (fun H locs hP hD hS => ?_)
              refine lv_iload hx hb dL_isStep_609 (lv_at hl 1 rfl) ?_
              refine lv_icmp_ne (tgt := 635) hx hb dL_isStep_611 (by decide) (fun c_174 => ?_) (fun c_174 => ?_)
              · have hf := ite_f hf c_174
                refine lv_iconst (v := 0) hx hb dL_isStep_635 (by decide) ?_
                cases hf
                exact mZret hx hb hr rfl hlocks hP hD hK hS dL_isStep_636
              · have hf := ite_t hf c_174
                refine lv_aload_n hx hb dL_isStep_614 rfl (lv_at hl 0 rfl) ?_
                refine lv_iconst (v := 3) hx hb dL_isStep_615 (by decide) ?_
                obtain ⟨⟨r_175, u_176⟩, q_177, hf⟩ := bnd hf
                refine mGoiS (segs := [(FS cI cC cT a u_172), (FS cI cC cT b v_163)]) (wcs := [(FS cI cC cT a u_172)]) (w1s := [(FS cI cC cT a u_176)]) (w2s := [(FS cI cC cT a u_176), (FS cI cC cT b v_163)]) flat1 flat1 (va_runV (As := [.int 3]) (rest := []) ⟨hx, hb, hml, hown, hts⟩ (c_Y5_count l D cI cC cT a u_172 H.size 3 r_175 u_176 q_177) (cwV 1 hts gL_isStep_X5_count rfl rfl rfl (by decide +kernel) ⟨Nat.le_of_ble_eq_true rfl, Nat.le_of_ble_eq_true rfl⟩) (mPreVS [(FS cI cC cT a u_172)] flat1 hP hD hK hN [0] rfl (by decide) (va_recv hK (sP hP 0 rfl) (ci := 5) (q0 := 0) rfl (FS0 cI cC cT a u_172))) rfl rfl hl.1 rfl (lv_room (Nat.le_of_ble_eq_true rfl)) dL_isStep_616 ⟨Nat.le_of_ble_eq_true rfl, Nat.le_of_ble_eq_true rfl⟩) hP hD hS hA [0] rfl rfl rfl rfl (fun H locs hP hD hS => ?_)
                refine lv_iconst (v := 1) hx hb dL_isStep_619 (by decide) ?_
                refine lv_icmp_ne (tgt := 635) hx hb dL_isStep_620 (by decide) (fun c_178 => ?_) (fun c_178 => ?_)
                · have hf := ite_f hf c_178
                  refine lv_iconst (v := 0) hx hb dL_isStep_635 (by decide) ?_
                  cases hf
                  exact mZret hx hb hr rfl hlocks hP hD hK hS dL_isStep_636
                · have hf := ite_t hf c_178
                  refine lv_aload_n hx hb dL_isStep_623 rfl (lv_at hl 0 rfl) ?_
                  refine lv_iconst (v := 2) hx hb dL_isStep_624 (by decide) ?_
                  obtain ⟨⟨r_179, u_180⟩, q_181, hf⟩ := bnd hf
                  refine mGoiS (segs := [(FS cI cC cT a u_176), (FS cI cC cT b v_163)]) (wcs := [(FS cI cC cT a u_176)]) (w1s := [(FS cI cC cT a u_180)]) (w2s := [(FS cI cC cT a u_180), (FS cI cC cT b v_163)]) flat1 flat1 (va_runV (As := [.int 2]) (rest := []) ⟨hx, hb, hml, hown, hts⟩ (c_Y5_count l D cI cC cT a u_176 H.size 2 r_179 u_180 q_181) (cwV 1 hts gL_isStep_X5_count rfl rfl rfl (by decide +kernel) ⟨Nat.le_of_ble_eq_true rfl, Nat.le_of_ble_eq_true rfl⟩) (mPreVS [(FS cI cC cT a u_176)] flat1 hP hD hK hN [0] rfl (by decide) (va_recv hK (sP hP 0 rfl) (ci := 5) (q0 := 0) rfl (FS0 cI cC cT a u_176))) rfl rfl hl.1 rfl (lv_room (Nat.le_of_ble_eq_true rfl)) dL_isStep_625 ⟨Nat.le_of_ble_eq_true rfl, Nat.le_of_ble_eq_true rfl⟩) hP hD hS hA [0] rfl rfl rfl rfl (fun H locs hP hD hS => ?_)
                  refine lv_if_ne (tgt := 635) hx hb dL_isStep_628 (by decide) (fun c_182 => ?_) (fun c_182 => ?_)
                  · have hf := ite_f hf c_182
                    refine lv_iconst (v := 0) hx hb dL_isStep_635 (by decide) ?_
                    cases hf
                    exact mZret hx hb hr rfl hlocks hP hD hK hS dL_isStep_636
                  · have hf := ite_t hf c_182
                    refine lv_iconst (v := 1) hx hb dL_isStep_631 (by decide) ?_
                    refine lv_goto (tgt := 636) hx hb dL_isStep_632 (by decide) ?_
                    cases hf
                    exact mZret hx hb hr rfl hlocks hP hD hK hS dL_isStep_636
          have hf := q_168
          refine lv_icmp_ne (tgt := 596) hx hb dL_isStep_588 (by decide) (fun c_169 => ?_) (fun c_169 => ?_)
          · have hf := ite_f hf c_169
            refine lv_iload hx hb dL_isStep_596 (lv_at hl 3 rfl) ?_
            refine lv_iload hx hb dL_isStep_598 (lv_at hl 1 rfl) ?_
            refine lv_isub hx hb dL_isStep_600 ?_
            cases hf
            exact K_167 _ _ hP hD hS _ (lv_sub hl [5, 1] rfl)
          · have hf := ite_t hf c_169
            refine lv_bipush (v := -5) hx hb dL_isStep_591 (by decide) ?_
            refine lv_goto (tgt := 601) hx hb dL_isStep_593 (by decide) ?_
            cases hf
            exact K_167 _ _ hP hD hS _ (lv_sub hl [5, 1] rfl)
      · have hf := ite_f hf c_154
        refine lv_iconst (v := 1) hx hb dL_isStep_551 (by decide) ?_
        cases hf
        exact mZret hx hb hr rfl hlocks hP hD hK hS dL_isStep_552
    refine lv_tableIn (tgt := 536) hx hb dL_isStep_27 (by rw [c_147]; decide) (by rw [c_147]; decide) (by rw [c_147]; rfl) (by decide) K_148
  have hf := ite_f hf c_147
  have nc_147_10 := c_147
  by_cases c_183 : r_6 = 11
  · have hf := ite_t hf c_183
    have K_184 : W p l e rm_L_isStep s m ([.ref (a 0), .ref (b 0), .int p2] : List Value).toArray below meth c H locs 0 0 (MQ below (mQi D (mTY cI cC cT) out A (List.flatten [(FS cI cC cT a o_u), (FS cI cC cT b o_v)])) ([.ref (a 0), .ref (b 0), .int p2] : List Value).toArray s 0 0 A) (F0 m 637 ls []) := by
      refine lv_aload_n hx hb dL_isStep_637 rfl (lv_at hl 3 rfl) ?_
      refine lv_bipush (v := 10) hx hb dL_isStep_638 (by decide) ?_
      obtain ⟨⟨r_185, u_186⟩, q_187, hf⟩ := bnd hf
      refine mGoiS (segs := [(FS cI cC cT a u_2), (FS cI cC cT b v)]) (wcs := [(FS cI cC cT a u_2)]) (w1s := [(FS cI cC cT a u_186)]) (w2s := [(FS cI cC cT a u_186), (FS cI cC cT b v)]) flat1 flat1 (va_runV (As := [.int 10]) (rest := []) ⟨hx, hb, hml, hown, hts⟩ (c_Y5_count l D cI cC cT a u_2 H.size 10 r_185 u_186 q_187) (cwV 1 hts gL_isStep_X5_count rfl rfl rfl (by decide +kernel) ⟨Nat.le_of_ble_eq_true rfl, Nat.le_of_ble_eq_true rfl⟩) (mPreVS [(FS cI cC cT a u_2)] flat1 hP hD hK hN [0] rfl (by decide) (va_recv hK (sP hP 0 rfl) (ci := 5) (q0 := 0) rfl (FS0 cI cC cT a u_2))) rfl rfl hl.1 rfl (lv_room (Nat.le_of_ble_eq_true rfl)) dL_isStep_640 ⟨Nat.le_of_ble_eq_true rfl, Nat.le_of_ble_eq_true rfl⟩) hP hD hS hA [0] rfl rfl rfl rfl (fun H locs hP hD hS => ?_)
      refine lv_if_eq (tgt := 657) hx hb dL_isStep_643 (by decide) (fun c_188 => ?_) (fun c_188 => ?_)
      · have hf := ite_t hf c_188
        refine lv_iconst (v := 1) hx hb dL_isStep_657 (by decide) ?_
        refine lv_goto (tgt := 662) hx hb dL_isStep_658 (by decide) ?_
        cases hf
        exact mZret hx hb hr rfl hlocks hP hD hK hS dL_isStep_662
      · have hf := ite_f hf c_188
        refine lv_aload_n hx hb dL_isStep_646 rfl (lv_at hl 3 rfl) ?_
        obtain ⟨⟨r_189, u_190⟩, q_191, hf⟩ := bnd hf
        refine mGoiS (segs := [(FS cI cC cT a u_186), (FS cI cC cT b v)]) (wcs := [(FS cI cC cT a u_186)]) (w1s := [(FS cI cC cT a u_190)]) (w2s := [(FS cI cC cT a u_190), (FS cI cC cT b v)]) flat1 flat1 (va_runV (As := []) (rest := []) ⟨hx, hb, hml, hown, hts⟩ (c_Y5_undo l D cI cC cT a u_186 H.size r_189 u_190 q_191) (cwV 0 hts gL_isStep_X5_undo rfl rfl rfl (by decide +kernel) ⟨Nat.le_of_ble_eq_true rfl, Nat.le_of_ble_eq_true rfl⟩) (mPreVS [(FS cI cC cT a u_186)] flat1 hP hD hK hN [0] rfl (by decide) (va_recv hK (sP hP 0 rfl) (ci := 5) (q0 := 0) rfl (FS0 cI cC cT a u_186))) rfl rfl hl.1 rfl (lv_room (Nat.le_of_ble_eq_true rfl)) dL_isStep_647 ⟨Nat.le_of_ble_eq_true rfl, Nat.le_of_ble_eq_true rfl⟩) hP hD hS hA [0] rfl rfl rfl rfl (fun H locs hP hD hS => ?_)
        refine lv_aload_n hx hb dL_isStep_650 rfl (lv_at hl 4 rfl) ?_
        obtain ⟨⟨r_192, v_193⟩, q_194, hf⟩ := bnd hf
        refine mGoiS (segs := [(FS cI cC cT a u_190), (FS cI cC cT b v)]) (wcs := [(FS cI cC cT b v)]) (w1s := [(FS cI cC cT b v_193)]) (w2s := [(FS cI cC cT a u_190), (FS cI cC cT b v_193)]) flat1 flat1 (va_runV (As := []) (rest := [.int r_189]) ⟨hx, hb, hml, hown, hts⟩ (c_Y5_undo l D cI cC cT b v H.size r_192 v_193 q_194) (cwV 0 hts gL_isStep_X5_undo rfl rfl rfl (by decide +kernel) ⟨Nat.le_of_ble_eq_true rfl, Nat.le_of_ble_eq_true rfl⟩) (mPreVS [(FS cI cC cT b v)] flat1 hP hD hK hN [1] rfl (by decide) (va_recv hK (sP hP 1 rfl) (ci := 5) (q0 := 0) rfl (FS0 cI cC cT b v))) rfl rfl hl.1 rfl (lv_room (Nat.le_of_ble_eq_true rfl)) dL_isStep_651 ⟨Nat.le_of_ble_eq_true rfl, Nat.le_of_ble_eq_true rfl⟩) hP hD hS hA [1] rfl rfl rfl rfl (fun H locs hP hD hS => ?_)
        refine lv_icmp_ne (tgt := 661) hx hb dL_isStep_654 (by decide) (fun c_195 => ?_) (fun c_195 => ?_)
        · have hf := ite_f hf c_195
          refine lv_iconst (v := 0) hx hb dL_isStep_661 (by decide) ?_
          cases hf
          exact mZret hx hb hr rfl hlocks hP hD hK hS dL_isStep_662
        · have hf := ite_t hf c_195
          refine lv_iconst (v := 1) hx hb dL_isStep_657 (by decide) ?_
          refine lv_goto (tgt := 662) hx hb dL_isStep_658 (by decide) ?_
          cases hf
          exact mZret hx hb hr rfl hlocks hP hD hK hS dL_isStep_662
    refine lv_tableIn (tgt := 637) hx hb dL_isStep_27 (by rw [c_183]; decide) (by rw [c_183]; decide) (by rw [c_183]; rfl) (by decide) K_184
  have hf := ite_f hf c_183
  have nc_183_11 := c_183
  refine lv_tableOut (tgt := 663) hx hb dL_isStep_27 (tsw_out 11 (by decide) (fun j hj => by rcases (show j = 0 ∨ j = 1 ∨ j = 2 ∨ j = 3 ∨ j = 4 ∨ j = 5 ∨ j = 6 ∨ j = 7 ∨ j = 8 ∨ j = 9 ∨ j = 10 ∨ j = 11 by omega) with rfl | rfl | rfl | rfl | rfl | rfl | rfl | rfl | rfl | rfl | rfl | rfl <;> assumption)) (by decide) ?_
  refine lv_aload_n hx hb dL_isStep_663 rfl (lv_at hl 3 rfl) ?_
  refine lv_aload_n hx hb dL_isStep_664 rfl (lv_at hl 4 rfl) ?_
  refine lv_iload_n hx hb dL_isStep_665 rfl (lv_at hl 2 rfl) ?_
  refine lv_bipush (v := 6) hx hb dL_isStep_666 (by decide) ?_
  obtain ⟨r_196, q_197, hf⟩ := bnd hf
  refine mGoiS (segs := [(FS cI cC cT a u_2), (FS cI cC cT b v)]) (wcs := []) (w1s := []) (w2s := [(FS cI cC cT a u_2), (FS cI cC cT b v)]) rfl rfl (va_runS (As := [.int (p2 >>> (4 &&& 31)), .int 6]) (rest := [.ref (b 0), .ref (a 0)]) ⟨hx, hb, hml, hown, hts⟩ (c_L_up l D cI cC cT H.size (p2 >>> (4 &&& 31)) 6 r_196 q_197) (va_cwS 2 hts gL_isStep_L_up rfl rfl rfl (by decide +kernel) ⟨Nat.le_of_ble_eq_true rfl, Nat.le_of_ble_eq_true rfl⟩) (mPreSS [] rfl hP hD hK hN [] rfl (by decide)) rfl rfl hl.1 rfl (lv_room (Nat.le_of_ble_eq_true rfl)) dL_isStep_668 ⟨Nat.le_of_ble_eq_true rfl, Nat.le_of_ble_eq_true rfl⟩) hP hD hS hA [] rfl rfl rfl rfl (fun H locs hP hD hS => ?_)
  refine lv_iload_n hx hb dL_isStep_671 rfl (lv_at hl 2 rfl) ?_
  refine lv_iconst (v := 3) hx hb dL_isStep_672 (by decide) ?_
  refine lv_ishr hx hb dL_isStep_673 ?_
  refine lv_bipush (v := 6) hx hb dL_isStep_674 (by decide) ?_
  obtain ⟨r_198, q_199, hf⟩ := bnd hf
  refine mGoiS (segs := [(FS cI cC cT a u_2), (FS cI cC cT b v)]) (wcs := []) (w1s := []) (w2s := [(FS cI cC cT a u_2), (FS cI cC cT b v)]) rfl rfl (va_runS (As := [.int ((p2 >>> (4 &&& 31)) >>> (3 &&& 31)), .int 6]) (rest := [.int r_196, .ref (b 0), .ref (a 0)]) ⟨hx, hb, hml, hown, hts⟩ (c_L_up l D cI cC cT H.size ((p2 >>> (4 &&& 31)) >>> (3 &&& 31)) 6 r_198 q_199) (va_cwS 2 hts gL_isStep_L_up rfl rfl rfl (by decide +kernel) ⟨Nat.le_of_ble_eq_true rfl, Nat.le_of_ble_eq_true rfl⟩) (mPreSS [] rfl hP hD hK hN [] rfl (by decide)) rfl rfl hl.1 rfl (lv_room (Nat.le_of_ble_eq_true rfl)) dL_isStep_676 ⟨Nat.le_of_ble_eq_true rfl, Nat.le_of_ble_eq_true rfl⟩) hP hD hS hA [] rfl rfl rfl rfl (fun H locs hP hD hS => ?_)
  refine lv_bipush (v := 97) hx hb dL_isStep_679 (by decide) ?_
  refine lv_iload_n hx hb dL_isStep_681 rfl (lv_at hl 2 rfl) ?_
  refine lv_bipush (v := 6) hx hb dL_isStep_682 (by decide) ?_
  refine lv_ishr hx hb dL_isStep_684 ?_
  refine lv_iconst (v := 5) hx hb dL_isStep_685 (by decide) ?_
  obtain ⟨r_200, q_201, hf⟩ := bnd hf
  refine mGoiS (segs := [(FS cI cC cT a u_2), (FS cI cC cT b v)]) (wcs := []) (w1s := []) (w2s := [(FS cI cC cT a u_2), (FS cI cC cT b v)]) rfl rfl (va_runS (As := [.int ((p2 >>> (4 &&& 31)) >>> (6 &&& 31)), .int 5]) (rest := [.int 97, .int r_198, .int r_196, .ref (b 0), .ref (a 0)]) ⟨hx, hb, hml, hown, hts⟩ (c_L_up l D cI cC cT H.size ((p2 >>> (4 &&& 31)) >>> (6 &&& 31)) 5 r_200 q_201) (va_cwS 2 hts gL_isStep_L_up rfl rfl rfl (by decide +kernel) ⟨Nat.le_of_ble_eq_true rfl, Nat.le_of_ble_eq_true rfl⟩) (mPreSS [] rfl hP hD hK hN [] rfl (by decide)) rfl rfl hl.1 rfl (lv_room (Nat.le_of_ble_eq_true rfl)) dL_isStep_686 ⟨Nat.le_of_ble_eq_true rfl, Nat.le_of_ble_eq_true rfl⟩) hP hD hS hA [] rfl rfl rfl rfl (fun H locs hP hD hS => ?_)
  refine lv_iadd hx hb dL_isStep_689 ?_
  obtain ⟨⟨r_202, u_203, v_204⟩, q_205, hf⟩ := bnd hf
  refine mGoiS (segs := [(FS cI cC cT a u_2), (FS cI cC cT b v)]) (wcs := [(FS cI cC cT a u_2), (FS cI cC cT b v)]) (w1s := [(FS cI cC cT a u_203), (FS cI cC cT b v_204)]) (w2s := [(FS cI cC cT a u_203), (FS cI cC cT b v_204)]) rfl rfl (va_runS (As := [.ref (a 0), .ref (b 0), .int r_196, .int r_198, .int (97 + r_200)]) (rest := []) ⟨hx, hb, hml, hown, hts⟩ (c_L_areAnswers l D cI cC cT a b u_2 v H.size r_196 r_198 (97 + r_200) r_202 u_203 v_204 q_205) (va_cwS 5 hts gL_isStep_L_areAnswers rfl rfl rfl (by decide +kernel) ⟨Nat.le_of_ble_eq_true rfl, Nat.le_of_ble_eq_true rfl⟩) (mPreSS [(FS cI cC cT a u_2), (FS cI cC cT b v)] rfl hP hD hK hN [0, 1] rfl (by decide)) rfl rfl hl.1 rfl (lv_room (Nat.le_of_ble_eq_true rfl)) dL_isStep_690 ⟨Nat.le_of_ble_eq_true rfl, Nat.le_of_ble_eq_true rfl⟩) hP hD hS hA [0, 1] rfl rfl rfl rfl (fun H locs hP hD hS => ?_)
  obtain ⟨h_206, hf⟩ := grd hf
  cases hf
  exact mZret hx hb hr (isB_narrow h_206) hlocks hP hD hK hS dL_isStep_693
