abbrev rm_L_areAlike : Room := { frames := 7, cells := 0, slots := 0, locals := 153 }
set_option maxHeartbeats 16000000 in
set_option maxRecDepth 100000 in
theorem c_L_areAlike (l : Launch) (D : va_G) (cI cC cT : ClassId) (a b : Nat → Nat) (u : SSt) (v : SSt) (sz : Nat) (out : Int32) (o_u : SSt) (o_v : SSt) (hf : f_L_areAlike u v = some ((out, o_u, o_v))) : Met l yL_areAlike wsL_areAlike rm_L_areAlike (mP D (mTY cI cC cT) [.ref (a 0), .ref (b 0)] (List.flatten [(FS cI cC cT a u), (FS cI cC cT b v)]) sz) (mQi D (mTY cI cC cT) out (va_A (List.flatten [(FS cI cC cT a u), (FS cI cC cT b v)]) sz) (List.flatten [(FS cI cC cT a o_u), (FS cI cC cT b o_v)])) 0 0 (va_A (List.flatten [(FS cI cC cT a u), (FS cI cC cT b v)]) sz) := by
  refine mEntN (cc := cL_areAlike) (maxL := 6) (ret := (some .boolean)) (own := RL) (Qq := fun A => mQi D (mTY cI cC cT) out A (List.flatten [(FS cI cC cT a o_u), (FS cI cC cT b o_v)])) (by decide) rfl rfl (Nat.le_of_ble_eq_true rfl) ?_
  intro p e s m below meth c A ls H locs hx hb hr hml hlocks hown hts hN hA hP hK hD hS hl
  have hl : lv_has ls 6 [(0, .ref (a 0)), (1, .ref (b 0))] := hl
  unfold f_L_areAlike at hf
  refine lv_aload_n hx hb dL_areAlike_0 rfl (lv_at hl 0 rfl) ?_
  refine lv_iconst (v := 0) hx hb dL_areAlike_1 (by decide) ?_
  obtain ⟨⟨r_1, u_2⟩, q_3, hf⟩ := bnd hf
  refine mGoiS (segs := [(FS cI cC cT a u), (FS cI cC cT b v)]) (wcs := [(FS cI cC cT a u)]) (w1s := [(FS cI cC cT a u_2)]) (w2s := [(FS cI cC cT a u_2), (FS cI cC cT b v)]) flat1 flat1 (va_runV (As := [.int 0]) (rest := []) ⟨hx, hb, hml, hown, hts⟩ (c_Y5_sum l D cI cC cT a u H.size 0 r_1 u_2 q_3) (cwV 1 hts gL_areAlike_X5_sum rfl rfl rfl (by decide +kernel) ⟨Nat.le_of_ble_eq_true rfl, Nat.le_of_ble_eq_true rfl⟩) (mPreVS [(FS cI cC cT a u)] flat1 hP hD hK hN [0] rfl (by decide) (va_recv hK (sP hP 0 rfl) (ci := 5) (q0 := 0) rfl (FS0 cI cC cT a u))) rfl rfl hl.1 rfl (lv_room (Nat.le_of_ble_eq_true rfl)) dL_areAlike_2 ⟨Nat.le_of_ble_eq_true rfl, Nat.le_of_ble_eq_true rfl⟩) hP hD hS hA [0] rfl rfl rfl rfl (fun H locs hP hD hS => ?_)
  refine lv_aload_n hx hb dL_areAlike_5 rfl (lv_at hl 1 rfl) ?_
  refine lv_iconst (v := 0) hx hb dL_areAlike_6 (by decide) ?_
  obtain ⟨⟨r_4, v_5⟩, q_6, hf⟩ := bnd hf
  refine mGoiS (segs := [(FS cI cC cT a u_2), (FS cI cC cT b v)]) (wcs := [(FS cI cC cT b v)]) (w1s := [(FS cI cC cT b v_5)]) (w2s := [(FS cI cC cT a u_2), (FS cI cC cT b v_5)]) flat1 flat1 (va_runV (As := [.int 0]) (rest := [.int r_1]) ⟨hx, hb, hml, hown, hts⟩ (c_Y5_sum l D cI cC cT b v H.size 0 r_4 v_5 q_6) (cwV 1 hts gL_areAlike_X5_sum rfl rfl rfl (by decide +kernel) ⟨Nat.le_of_ble_eq_true rfl, Nat.le_of_ble_eq_true rfl⟩) (mPreVS [(FS cI cC cT b v)] flat1 hP hD hK hN [1] rfl (by decide) (va_recv hK (sP hP 1 rfl) (ci := 5) (q0 := 0) rfl (FS0 cI cC cT b v))) rfl rfl hl.1 rfl (lv_room (Nat.le_of_ble_eq_true rfl)) dL_areAlike_7 ⟨Nat.le_of_ble_eq_true rfl, Nat.le_of_ble_eq_true rfl⟩) hP hD hS hA [1] rfl rfl rfl rfl (fun H locs hP hD hS => ?_)
  obtain ⟨⟨x_7, u_8, v_9⟩, q_11, hf⟩ := bnd hf
  have K_10 : ∀ (H : Heap) (locs : List Loc), va_P D vwCl (List.flatten [(FS cI cC cT a u_8), (FS cI cC cT b v_9)]) H → va_D A (List.flatten [(FS cI cC cT a u_8), (FS cI cC cT b v_9)]) → va_S A s.heap H locs → ∀ (ls : Array Slot), lv_has ls 6 [(0, .ref (a 0)), (1, .ref (b 0))] → W p l e rm_L_areAlike s m ([.ref (a 0), .ref (b 0)] : List Value).toArray below meth c H locs 0 0 (MQ below (mQi D (mTY cI cC cT) out A (List.flatten [(FS cI cC cT a o_u), (FS cI cC cT b o_v)])) ([.ref (a 0), .ref (b 0)] : List Value).toArray s 0 0 A) (F0 m 31 ls [.int x_7]) := by
    intro H locs hP hD hS ls hl
    refine lv_istore_n (lv' := [(2, .int x_7), (0, .ref (a 0)), (1, .ref (b 0))]) hx hb dL_areAlike_31 rfl hl (by decide) rfl (fun ls hl => ?_)
    refine lv_iconst (v := 0) hx hb dL_areAlike_32 (by decide) ?_
    refine lv_istore_n (lv' := [(3, .int 0), (2, .int x_7), (0, .ref (a 0)), (1, .ref (b 0))]) hx hb dL_areAlike_33 rfl hl (by decide) rfl (fun ls hl => ?_)
    obtain ⟨⟨x_20, u_21, v_22⟩, q_24, hf⟩ := bnd hf
    have K_23 : ∀ (H : Heap) (locs : List Loc), va_P D vwCl (List.flatten [(FS cI cC cT a u_21), (FS cI cC cT b v_22)]) H → va_D A (List.flatten [(FS cI cC cT a u_21), (FS cI cC cT b v_22)]) → va_S A s.heap H locs → ∀ (ls : Array Slot), lv_has ls 6 [(0, .ref (a 0)), (1, .ref (b 0)), (2, .int x_20)] → W p l e rm_L_areAlike s m ([.ref (a 0), .ref (b 0)] : List Value).toArray below meth c H locs 0 0 (MQ below (mQi D (mTY cI cC cT) out A (List.flatten [(FS cI cC cT a o_u), (FS cI cC cT b o_v)])) ([.ref (a 0), .ref (b 0)] : List Value).toArray s 0 0 A) (F0 m 69 ls []) := by
      intro H locs hP hD hS ls hl
      refine lv_iconst (v := 0) hx hb dL_areAlike_69 (by decide) ?_
      refine lv_istore_n (lv' := [(3, .int 0), (0, .ref (a 0)), (1, .ref (b 0)), (2, .int x_20)]) hx hb dL_areAlike_70 rfl hl (by decide) rfl (fun ls hl => ?_)
      obtain ⟨⟨x_44, u_45, v_46⟩, q_48, hf⟩ := bnd hf
      have K_47 : ∀ (H : Heap) (locs : List Loc), va_P D vwCl (List.flatten [(FS cI cC cT a u_45), (FS cI cC cT b v_46)]) H → va_D A (List.flatten [(FS cI cC cT a u_45), (FS cI cC cT b v_46)]) → va_S A s.heap H locs → ∀ (ls : Array Slot), lv_has ls 6 [(0, .ref (a 0)), (1, .ref (b 0)), (2, .int x_44)] → W p l e rm_L_areAlike s m ([.ref (a 0), .ref (b 0)] : List Value).toArray below meth c H locs 0 0 (MQ below (mQi D (mTY cI cC cT) out A (List.flatten [(FS cI cC cT a o_u), (FS cI cC cT b o_v)])) ([.ref (a 0), .ref (b 0)] : List Value).toArray s 0 0 A) (F0 m 195 ls []) := by
        intro H locs hP hD hS ls hl
        refine lv_iconst (v := 0) hx hb dL_areAlike_195 (by decide) ?_
        refine lv_istore_n (lv' := [(3, .int 0), (0, .ref (a 0)), (1, .ref (b 0)), (2, .int x_44)]) hx hb dL_areAlike_196 rfl hl (by decide) rfl (fun ls hl => ?_)
        obtain ⟨⟨x_112, u_113, v_114⟩, q_116, hf⟩ := bnd hf
        have K_115 : ∀ (H : Heap) (locs : List Loc), va_P D vwCl (List.flatten [(FS cI cC cT a u_113), (FS cI cC cT b v_114)]) H → va_D A (List.flatten [(FS cI cC cT a u_113), (FS cI cC cT b v_114)]) → va_S A s.heap H locs → ∀ (ls : Array Slot), lv_has ls 6 [(2, .int x_112)] → W p l e rm_L_areAlike s m ([.ref (a 0), .ref (b 0)] : List Value).toArray below meth c H locs 0 0 (MQ below (mQi D (mTY cI cC cT) out A (List.flatten [(FS cI cC cT a o_u), (FS cI cC cT b o_v)])) ([.ref (a 0), .ref (b 0)] : List Value).toArray s 0 0 A) (F0 m 359 ls []) := by
          intro H locs hP hD hS ls hl
          refine lv_iload_n hx hb dL_areAlike_359 rfl (lv_at hl 0 rfl) ?_
          obtain ⟨h_183, hf⟩ := grd hf
          cases hf
          exact mZret hx hb hr (isB_narrow h_183) hlocks hP hD hK hS dL_areAlike_360
        have hf := q_116
        have LP_121 : ∀ (n_121 : Nat) (v2_117 : Int32) (v3_118 : Int32) (u_119 : SSt) (v_120 : SSt), iter n_121 (b_L_areAlike_5) ((v2_117, v3_118, u_119, v_120)) = some ((x_112, u_113, v_114)) → ∀ (H : Heap) (locs : List Loc), va_P D vwCl (List.flatten [(FS cI cC cT a u_119), (FS cI cC cT b v_120)]) H → va_D A (List.flatten [(FS cI cC cT a u_119), (FS cI cC cT b v_120)]) → va_S A s.heap H locs → ∀ (ls : Array Slot), lv_has ls 6 [(0, .ref (a 0)), (1, .ref (b 0)), (2, .int v2_117), (3, .int v3_118)] → W p l e rm_L_areAlike s m ([.ref (a 0), .ref (b 0)] : List Value).toArray below meth c H locs 0 0 (MQ below (mQi D (mTY cI cC cT) out A (List.flatten [(FS cI cC cT a o_u), (FS cI cC cT b o_v)])) ([.ref (a 0), .ref (b 0)] : List Value).toArray s 0 0 A) (F0 m 197 ls []) := by
          intro n_121
          induction n_121 with
          | zero => intro v2_117 v3_118 u_119 v_120 hf; exact (iter_zero hf).elim
          | succ n_121 ih_121 =>
            intro v2_117 v3_118 u_119 v_120 hf H locs hP hD hS ls hl
            obtain ⟨o_121, hf, ho_121⟩ := iter_succ hf
            dsimp only [b_L_areAlike_5] at hf
            refine lv_iload_n hx hb dL_areAlike_197 rfl (lv_at hl 3 rfl) ?_
            refine lv_bipush (v := 10) hx hb dL_areAlike_198 (by decide) ?_
            refine lv_icmp_ge (tgt := 359) hx hb dL_areAlike_200 (by decide) (fun c_122 => ?_) (fun c_122 => ?_)
            · have hf := ite_t hf c_122
              cases hf
              have hf := ho_121.2 _ rfl
              cases hf
              exact K_115 _ _ hP hD hS _ (lv_sub hl [2] rfl)
            · have hf := ite_f hf c_122
              refine lv_iload_n hx hb dL_areAlike_203 rfl (lv_at hl 2 rfl) ?_
              refine lv_if_eq (tgt := 359) hx hb dL_areAlike_204 (by decide) (fun c_123 => ?_) (fun c_123 => ?_)
              · have hf := ite_t hf c_123
                cases hf
                have hf := ho_121.2 _ rfl
                cases hf
                exact K_115 _ _ hP hD hS _ (lv_sub hl [2] rfl)
              · have hf := ite_f hf c_123
                refine lv_iconst (v := 0) hx hb dL_areAlike_207 (by decide) ?_
                refine lv_istore (lv' := [(4, .int 0), (0, .ref (a 0)), (1, .ref (b 0)), (2, .int v2_117), (3, .int v3_118)]) hx hb dL_areAlike_208 hl (by decide) rfl (fun ls hl => ?_)
                obtain ⟨⟨x_124, u_125, v_126⟩, q_128, hf⟩ := bnd hf
                have K_127 : ∀ (H : Heap) (locs : List Loc), va_P D vwCl (List.flatten [(FS cI cC cT a u_125), (FS cI cC cT b v_126)]) H → va_D A (List.flatten [(FS cI cC cT a u_125), (FS cI cC cT b v_126)]) → va_S A s.heap H locs → ∀ (ls : Array Slot), lv_has ls 6 [(0, .ref (a 0)), (1, .ref (b 0)), (2, .int x_124), (3, .int v3_118)] → W p l e rm_L_areAlike s m ([.ref (a 0), .ref (b 0)] : List Value).toArray below meth c H locs 0 0 (MQ below (mQi D (mTY cI cC cT) out A (List.flatten [(FS cI cC cT a o_u), (FS cI cC cT b o_v)])) ([.ref (a 0), .ref (b 0)] : List Value).toArray s 0 0 A) (F0 m 285 ls []) := by
                  intro H locs hP hD hS ls hl
                  refine lv_iconst (v := 3) hx hb dL_areAlike_285 (by decide) ?_
                  refine lv_iload_n hx hb dL_areAlike_286 rfl (lv_at hl 3 rfl) ?_
                  refine lv_imul hx hb dL_areAlike_287 ?_
                  refine lv_iconst (v := 1) hx hb dL_areAlike_288 (by decide) ?_
                  refine lv_iadd hx hb dL_areAlike_289 ?_
                  refine lv_bipush (v := 10) hx hb dL_areAlike_290 (by decide) ?_
                  refine lv_irem hx hb dL_areAlike_292 (by decide) ?_
                  refine lv_istore (lv' := [(4, .int (((3 * v3_118) + 1) - ((3 * v3_118) + 1) / 10 * 10)), (0, .ref (a 0)), (1, .ref (b 0)), (2, .int x_124), (3, .int v3_118)]) hx hb dL_areAlike_293 hl (by decide) rfl (fun ls hl => ?_)
                  refine lv_iconst (v := 0) hx hb dL_areAlike_295 (by decide) ?_
                  refine lv_istore (lv' := [(5, .int 0), (4, .int (((3 * v3_118) + 1) - ((3 * v3_118) + 1) / 10 * 10)), (0, .ref (a 0)), (1, .ref (b 0)), (2, .int x_124), (3, .int v3_118)]) hx hb dL_areAlike_296 hl (by decide) rfl (fun ls hl => ?_)
                  obtain ⟨⟨x_158, u_159, v_160⟩, q_162, hf⟩ := bnd hf
                  have K_161 : ∀ (H : Heap) (locs : List Loc), va_P D vwCl (List.flatten [(FS cI cC cT a u_159), (FS cI cC cT b v_160)]) H → va_D A (List.flatten [(FS cI cC cT a u_159), (FS cI cC cT b v_160)]) → va_S A s.heap H locs → ∀ (ls : Array Slot), lv_has ls 6 [(0, .ref (a 0)), (1, .ref (b 0)), (2, .int x_158), (3, .int v3_118)] → W p l e rm_L_areAlike s m ([.ref (a 0), .ref (b 0)] : List Value).toArray below meth c H locs 0 0 (MQ below (mQi D (mTY cI cC cT) out A (List.flatten [(FS cI cC cT a o_u), (FS cI cC cT b o_v)])) ([.ref (a 0), .ref (b 0)] : List Value).toArray s 0 0 A) (F0 m 353 ls []) := by
                    intro H locs hP hD hS ls hl
                    refine lv_iinc (v := v3_118 + 1) (lv' := [(3, .int (v3_118 + 1)), (0, .ref (a 0)), (1, .ref (b 0)), (2, .int x_158)]) hx hb dL_areAlike_353 hl (k := 3) rfl rfl (by decide) rfl (fun ls hl => ?_)
                    refine lv_goto (tgt := 197) hx hb dL_areAlike_356 (by decide) ?_
                    cases hf
                    have hf := ho_121.1 _ rfl
                    exact ih_121 _ _ _ _ hf _ _ hP hD hS _ (lv_sub hl [1, 2, 3, 0] rfl)
                  have hf := q_162
                  have LP_167 : ∀ (n_167 : Nat) (v2_163 : Int32) (v5_164 : Int32) (u_165 : SSt) (v_166 : SSt), iter n_167 (b_L_areAlike_4 v3_118) ((v2_163, v5_164, u_165, v_166)) = some ((x_158, u_159, v_160)) → ∀ (H : Heap) (locs : List Loc), va_P D vwCl (List.flatten [(FS cI cC cT a u_165), (FS cI cC cT b v_166)]) H → va_D A (List.flatten [(FS cI cC cT a u_165), (FS cI cC cT b v_166)]) → va_S A s.heap H locs → ∀ (ls : Array Slot), lv_has ls 6 [(0, .ref (a 0)), (1, .ref (b 0)), (2, .int v2_163), (3, .int v3_118), (4, .int (((3 * v3_118) + 1) - ((3 * v3_118) + 1) / 10 * 10)), (5, .int v5_164)] → W p l e rm_L_areAlike s m ([.ref (a 0), .ref (b 0)] : List Value).toArray below meth c H locs 0 0 (MQ below (mQi D (mTY cI cC cT) out A (List.flatten [(FS cI cC cT a o_u), (FS cI cC cT b o_v)])) ([.ref (a 0), .ref (b 0)] : List Value).toArray s 0 0 A) (F0 m 298 ls []) := by
                    intro n_167
                    induction n_167 with
                    | zero => intro v2_163 v5_164 u_165 v_166 hf; exact (iter_zero hf).elim
                    | succ n_167 ih_167 =>
                      intro v2_163 v5_164 u_165 v_166 hf H locs hP hD hS ls hl
                      obtain ⟨o_167, hf, ho_167⟩ := iter_succ hf
                      dsimp only [b_L_areAlike_4] at hf
                      refine lv_iload hx hb dL_areAlike_298 (lv_at hl 5 rfl) ?_
                      refine lv_iconst (v := 5) hx hb dL_areAlike_300 (by decide) ?_
                      refine lv_icmp_ge (tgt := 353) hx hb dL_areAlike_301 (by decide) (fun c_168 => ?_) (fun c_168 => ?_)
                      · have hf := ite_t hf c_168
                        cases hf
                        have hf := ho_167.2 _ rfl
                        cases hf
                        exact K_161 _ _ hP hD hS _ (lv_sub hl [0, 1, 2, 3] rfl)
                      · have hf := ite_f hf c_168
                        refine lv_iload_n hx hb dL_areAlike_304 rfl (lv_at hl 2 rfl) ?_
                        obtain ⟨⟨x_169, u_170, v_171⟩, q_173, hf⟩ := bnd hf
                        have K_172 : ∀ (H : Heap) (locs : List Loc), va_P D vwCl (List.flatten [(FS cI cC cT a u_170), (FS cI cC cT b v_171)]) H → va_D A (List.flatten [(FS cI cC cT a u_170), (FS cI cC cT b v_171)]) → va_S A s.heap H locs → ∀ (ls : Array Slot), lv_has ls 6 [(0, .ref (a 0)), (1, .ref (b 0)), (3, .int v3_118), (4, .int (((3 * v3_118) + 1) - ((3 * v3_118) + 1) / 10 * 10)), (5, .int v5_164)] → W p l e rm_L_areAlike s m ([.ref (a 0), .ref (b 0)] : List Value).toArray below meth c H locs 0 0 (MQ below (mQi D (mTY cI cC cT) out A (List.flatten [(FS cI cC cT a o_u), (FS cI cC cT b o_v)])) ([.ref (a 0), .ref (b 0)] : List Value).toArray s 0 0 A) (F0 m 346 ls [.int x_169]) := by
                          intro H locs hP hD hS ls hl
                          refine lv_istore_n (lv' := [(2, .int x_169), (0, .ref (a 0)), (1, .ref (b 0)), (3, .int v3_118), (4, .int (((3 * v3_118) + 1) - ((3 * v3_118) + 1) / 10 * 10)), (5, .int v5_164)]) hx hb dL_areAlike_346 rfl hl (by decide) rfl (fun ls hl => ?_)
                          refine lv_iinc (v := v5_164 + 1) (lv' := [(5, .int (v5_164 + 1)), (2, .int x_169), (0, .ref (a 0)), (1, .ref (b 0)), (3, .int v3_118), (4, .int (((3 * v3_118) + 1) - ((3 * v3_118) + 1) / 10 * 10))]) hx hb dL_areAlike_347 hl (k := 5) rfl rfl (by decide) rfl (fun ls hl => ?_)
                          refine lv_goto (tgt := 298) hx hb dL_areAlike_350 (by decide) ?_
                          cases hf
                          have hf := ho_167.1 _ rfl
                          exact ih_167 _ _ _ _ hf _ _ hP hD hS _ (lv_sub hl [2, 3, 1, 4, 5, 0] rfl)
                        have hf := q_173
                        refine lv_if_eq (tgt := 345) hx hb dL_areAlike_305 (by decide) (fun c_174 => ?_) (fun c_174 => ?_)
                        · have hf := ite_t hf c_174
                          refine lv_iconst (v := 0) hx hb dL_areAlike_345 (by decide) ?_
                          cases hf
                          exact K_172 _ _ hP hD hS _ (lv_sub hl [0, 1, 3, 4, 5] rfl)
                        · have hf := ite_f hf c_174
                          refine lv_iload hx hb dL_areAlike_308 (lv_at hl 5 rfl) ?_
                          refine lv_iconst (v := 3) hx hb dL_areAlike_310 (by decide) ?_
                          refine lv_icmp_eq (tgt := 341) hx hb dL_areAlike_311 (by decide) (fun c_175 => ?_) (fun c_175 => ?_)
                          · have hf := ite_t hf c_175
                            refine lv_iconst (v := 1) hx hb dL_areAlike_341 (by decide) ?_
                            refine lv_goto (tgt := 346) hx hb dL_areAlike_342 (by decide) ?_
                            cases hf
                            exact K_172 _ _ hP hD hS _ (lv_sub hl [0, 1, 3, 4, 5] rfl)
                          · have hf := ite_f hf c_175
                            refine lv_aload_n hx hb dL_areAlike_314 rfl (lv_at hl 0 rfl) ?_
                            refine lv_iload_n hx hb dL_areAlike_315 rfl (lv_at hl 3 rfl) ?_
                            refine lv_iload hx hb dL_areAlike_316 (lv_at hl 4 rfl) ?_
                            refine lv_iload hx hb dL_areAlike_318 (lv_at hl 5 rfl) ?_
                            obtain ⟨⟨r_176, u_177⟩, q_178, hf⟩ := bnd hf
                            refine mGoiS (segs := [(FS cI cC cT a u_165), (FS cI cC cT b v_166)]) (wcs := [(FS cI cC cT a u_165)]) (w1s := [(FS cI cC cT a u_177)]) (w2s := [(FS cI cC cT a u_177), (FS cI cC cT b v_166)]) flat1 flat1 (va_runV (As := [.int v3_118, .int (((3 * v3_118) + 1) - ((3 * v3_118) + 1) / 10 * 10), .int v5_164]) (rest := []) ⟨hx, hb, hml, hown, hts⟩ (c_Y5_way l D cI cC cT a u_165 H.size v3_118 (((3 * v3_118) + 1) - ((3 * v3_118) + 1) / 10 * 10) v5_164 r_176 u_177 q_178) (cwV 3 hts gL_areAlike_X5_way rfl rfl rfl (by decide +kernel) ⟨Nat.le_of_ble_eq_true rfl, Nat.le_of_ble_eq_true rfl⟩) (mPreVS [(FS cI cC cT a u_165)] flat1 hP hD hK hN [0] rfl (by decide) (va_recv hK (sP hP 0 rfl) (ci := 5) (q0 := 0) rfl (FS0 cI cC cT a u_165))) rfl rfl hl.1 rfl (lv_room (Nat.le_of_ble_eq_true rfl)) dL_areAlike_320 ⟨Nat.le_of_ble_eq_true rfl, Nat.le_of_ble_eq_true rfl⟩) hP hD hS hA [0] rfl rfl rfl rfl (fun H locs hP hD hS => ?_)
                            refine lv_aload_n hx hb dL_areAlike_323 rfl (lv_at hl 1 rfl) ?_
                            refine lv_bipush (v := 9) hx hb dL_areAlike_324 (by decide) ?_
                            refine lv_iload_n hx hb dL_areAlike_326 rfl (lv_at hl 3 rfl) ?_
                            refine lv_isub hx hb dL_areAlike_327 ?_
                            refine lv_bipush (v := 9) hx hb dL_areAlike_328 (by decide) ?_
                            refine lv_iload hx hb dL_areAlike_330 (lv_at hl 4 rfl) ?_
                            refine lv_isub hx hb dL_areAlike_332 ?_
                            refine lv_iload hx hb dL_areAlike_333 (lv_at hl 5 rfl) ?_
                            obtain ⟨⟨r_179, v_180⟩, q_181, hf⟩ := bnd hf
                            refine mGoiS (segs := [(FS cI cC cT a u_177), (FS cI cC cT b v_166)]) (wcs := [(FS cI cC cT b v_166)]) (w1s := [(FS cI cC cT b v_180)]) (w2s := [(FS cI cC cT a u_177), (FS cI cC cT b v_180)]) flat1 flat1 (va_runV (As := [.int (9 - v3_118), .int (9 - (((3 * v3_118) + 1) - ((3 * v3_118) + 1) / 10 * 10)), .int v5_164]) (rest := [.int r_176]) ⟨hx, hb, hml, hown, hts⟩ (c_Y5_way l D cI cC cT b v_166 H.size (9 - v3_118) (9 - (((3 * v3_118) + 1) - ((3 * v3_118) + 1) / 10 * 10)) v5_164 r_179 v_180 q_181) (cwV 3 hts gL_areAlike_X5_way rfl rfl rfl (by decide +kernel) ⟨Nat.le_of_ble_eq_true rfl, Nat.le_of_ble_eq_true rfl⟩) (mPreVS [(FS cI cC cT b v_166)] flat1 hP hD hK hN [1] rfl (by decide) (va_recv hK (sP hP 1 rfl) (ci := 5) (q0 := 0) rfl (FS0 cI cC cT b v_166))) rfl rfl hl.1 rfl (lv_room (Nat.le_of_ble_eq_true rfl)) dL_areAlike_335 ⟨Nat.le_of_ble_eq_true rfl, Nat.le_of_ble_eq_true rfl⟩) hP hD hS hA [1] rfl rfl rfl rfl (fun H locs hP hD hS => ?_)
                            refine lv_icmp_ne (tgt := 345) hx hb dL_areAlike_338 (by decide) (fun c_182 => ?_) (fun c_182 => ?_)
                            · have hf := ite_f hf c_182
                              refine lv_iconst (v := 0) hx hb dL_areAlike_345 (by decide) ?_
                              cases hf
                              exact K_172 _ _ hP hD hS _ (lv_sub hl [0, 1, 3, 4, 5] rfl)
                            · have hf := ite_t hf c_182
                              refine lv_iconst (v := 1) hx hb dL_areAlike_341 (by decide) ?_
                              refine lv_goto (tgt := 346) hx hb dL_areAlike_342 (by decide) ?_
                              cases hf
                              exact K_172 _ _ hP hD hS _ (lv_sub hl [0, 1, 3, 4, 5] rfl)
                  exact LP_167 _ _ _ _ _ hf _ _ hP hD hS _ (lv_sub hl [2, 3, 4, 5, 1, 0] rfl)
                have hf := q_128
                have LP_133 : ∀ (n_133 : Nat) (v2_129 : Int32) (v4_130 : Int32) (u_131 : SSt) (v_132 : SSt), iter n_133 (b_L_areAlike_3 v3_118) ((v2_129, v4_130, u_131, v_132)) = some ((x_124, u_125, v_126)) → ∀ (H : Heap) (locs : List Loc), va_P D vwCl (List.flatten [(FS cI cC cT a u_131), (FS cI cC cT b v_132)]) H → va_D A (List.flatten [(FS cI cC cT a u_131), (FS cI cC cT b v_132)]) → va_S A s.heap H locs → ∀ (ls : Array Slot), lv_has ls 6 [(0, .ref (a 0)), (1, .ref (b 0)), (2, .int v2_129), (3, .int v3_118), (4, .int v4_130)] → W p l e rm_L_areAlike s m ([.ref (a 0), .ref (b 0)] : List Value).toArray below meth c H locs 0 0 (MQ below (mQi D (mTY cI cC cT) out A (List.flatten [(FS cI cC cT a o_u), (FS cI cC cT b o_v)])) ([.ref (a 0), .ref (b 0)] : List Value).toArray s 0 0 A) (F0 m 210 ls []) := by
                  intro n_133
                  induction n_133 with
                  | zero => intro v2_129 v4_130 u_131 v_132 hf; exact (iter_zero hf).elim
                  | succ n_133 ih_133 =>
                    intro v2_129 v4_130 u_131 v_132 hf H locs hP hD hS ls hl
                    obtain ⟨o_133, hf, ho_133⟩ := iter_succ hf
                    dsimp only [b_L_areAlike_3] at hf
                    refine lv_iload hx hb dL_areAlike_210 (lv_at hl 4 rfl) ?_
                    refine lv_iconst (v := 5) hx hb dL_areAlike_212 (by decide) ?_
                    refine lv_icmp_ge (tgt := 285) hx hb dL_areAlike_213 (by decide) (fun c_134 => ?_) (fun c_134 => ?_)
                    · have hf := ite_t hf c_134
                      cases hf
                      have hf := ho_133.2 _ rfl
                      cases hf
                      exact K_127 _ _ hP hD hS _ (lv_sub hl [0, 1, 2, 3] rfl)
                    · have hf := ite_f hf c_134
                      refine lv_iload_n hx hb dL_areAlike_216 rfl (lv_at hl 2 rfl) ?_
                      obtain ⟨⟨x_135, u_136, v_137⟩, q_139, hf⟩ := bnd hf
                      have K_138 : ∀ (H : Heap) (locs : List Loc), va_P D vwCl (List.flatten [(FS cI cC cT a u_136), (FS cI cC cT b v_137)]) H → va_D A (List.flatten [(FS cI cC cT a u_136), (FS cI cC cT b v_137)]) → va_S A s.heap H locs → ∀ (ls : Array Slot), lv_has ls 6 [(0, .ref (a 0)), (1, .ref (b 0)), (3, .int v3_118), (4, .int v4_130)] → W p l e rm_L_areAlike s m ([.ref (a 0), .ref (b 0)] : List Value).toArray below meth c H locs 0 0 (MQ below (mQi D (mTY cI cC cT) out A (List.flatten [(FS cI cC cT a o_u), (FS cI cC cT b o_v)])) ([.ref (a 0), .ref (b 0)] : List Value).toArray s 0 0 A) (F0 m 278 ls [.int x_135]) := by
                        intro H locs hP hD hS ls hl
                        refine lv_istore_n (lv' := [(2, .int x_135), (0, .ref (a 0)), (1, .ref (b 0)), (3, .int v3_118), (4, .int v4_130)]) hx hb dL_areAlike_278 rfl hl (by decide) rfl (fun ls hl => ?_)
                        refine lv_iinc (v := v4_130 + 1) (lv' := [(4, .int (v4_130 + 1)), (2, .int x_135), (0, .ref (a 0)), (1, .ref (b 0)), (3, .int v3_118)]) hx hb dL_areAlike_279 hl (k := 4) rfl rfl (by decide) rfl (fun ls hl => ?_)
                        refine lv_goto (tgt := 210) hx hb dL_areAlike_282 (by decide) ?_
                        cases hf
                        have hf := ho_133.1 _ rfl
                        exact ih_133 _ _ _ _ hf _ _ hP hD hS _ (lv_sub hl [2, 3, 1, 4, 0] rfl)
                      have hf := q_139
                      refine lv_if_eq (tgt := 277) hx hb dL_areAlike_217 (by decide) (fun c_140 => ?_) (fun c_140 => ?_)
                      · have hf := ite_t hf c_140
                        refine lv_iconst (v := 0) hx hb dL_areAlike_277 (by decide) ?_
                        cases hf
                        exact K_138 _ _ hP hD hS _ (lv_sub hl [0, 1, 3, 4] rfl)
                      · have hf := ite_f hf c_140
                        refine lv_aload_n hx hb dL_areAlike_220 rfl (lv_at hl 0 rfl) ?_
                        refine lv_iload_n hx hb dL_areAlike_221 rfl (lv_at hl 3 rfl) ?_
                        refine lv_iload hx hb dL_areAlike_222 (lv_at hl 4 rfl) ?_
                        obtain ⟨⟨r_141, u_142⟩, q_143, hf⟩ := bnd hf
                        refine mGoiS (segs := [(FS cI cC cT a u_131), (FS cI cC cT b v_132)]) (wcs := [(FS cI cC cT a u_131)]) (w1s := [(FS cI cC cT a u_142)]) (w2s := [(FS cI cC cT a u_142), (FS cI cC cT b v_132)]) flat1 flat1 (va_runV (As := [.int v3_118, .int v4_130]) (rest := []) ⟨hx, hb, hml, hown, hts⟩ (c_Y5_key l D cI cC cT a u_131 H.size v3_118 v4_130 r_141 u_142 q_143) (cwV 2 hts gL_areAlike_X5_key rfl rfl rfl (by decide +kernel) ⟨Nat.le_of_ble_eq_true rfl, Nat.le_of_ble_eq_true rfl⟩) (mPreVS [(FS cI cC cT a u_131)] flat1 hP hD hK hN [0] rfl (by decide) (va_recv hK (sP hP 0 rfl) (ci := 5) (q0 := 0) rfl (FS0 cI cC cT a u_131))) rfl rfl hl.1 rfl (lv_room (Nat.le_of_ble_eq_true rfl)) dL_areAlike_224 ⟨Nat.le_of_ble_eq_true rfl, Nat.le_of_ble_eq_true rfl⟩) hP hD hS hA [0] rfl rfl rfl rfl (fun H locs hP hD hS => ?_)
                        refine lv_aload_n hx hb dL_areAlike_227 rfl (lv_at hl 1 rfl) ?_
                        refine lv_bipush (v := 9) hx hb dL_areAlike_228 (by decide) ?_
                        refine lv_iload_n hx hb dL_areAlike_230 rfl (lv_at hl 3 rfl) ?_
                        refine lv_isub hx hb dL_areAlike_231 ?_
                        refine lv_iload hx hb dL_areAlike_232 (lv_at hl 4 rfl) ?_
                        obtain ⟨⟨r_144, v_145⟩, q_146, hf⟩ := bnd hf
                        refine mGoiS (segs := [(FS cI cC cT a u_142), (FS cI cC cT b v_132)]) (wcs := [(FS cI cC cT b v_132)]) (w1s := [(FS cI cC cT b v_145)]) (w2s := [(FS cI cC cT a u_142), (FS cI cC cT b v_145)]) flat1 flat1 (va_runV (As := [.int (9 - v3_118), .int v4_130]) (rest := [.int r_141]) ⟨hx, hb, hml, hown, hts⟩ (c_Y5_key l D cI cC cT b v_132 H.size (9 - v3_118) v4_130 r_144 v_145 q_146) (cwV 2 hts gL_areAlike_X5_key rfl rfl rfl (by decide +kernel) ⟨Nat.le_of_ble_eq_true rfl, Nat.le_of_ble_eq_true rfl⟩) (mPreVS [(FS cI cC cT b v_132)] flat1 hP hD hK hN [1] rfl (by decide) (va_recv hK (sP hP 1 rfl) (ci := 5) (q0 := 0) rfl (FS0 cI cC cT b v_132))) rfl rfl hl.1 rfl (lv_room (Nat.le_of_ble_eq_true rfl)) dL_areAlike_234 ⟨Nat.le_of_ble_eq_true rfl, Nat.le_of_ble_eq_true rfl⟩) hP hD hS hA [1] rfl rfl rfl rfl (fun H locs hP hD hS => ?_)
                        refine lv_icmp_ne (tgt := 277) hx hb dL_areAlike_237 (by decide) (fun c_147 => ?_) (fun c_147 => ?_)
                        · have hf := ite_f hf c_147
                          refine lv_iconst (v := 0) hx hb dL_areAlike_277 (by decide) ?_
                          cases hf
                          exact K_138 _ _ hP hD hS _ (lv_sub hl [0, 1, 3, 4] rfl)
                        · have hf := ite_t hf c_147
                          refine lv_iload_n hx hb dL_areAlike_240 rfl (lv_at hl 3 rfl) ?_
                          refine lv_bipush (v := 7) hx hb dL_areAlike_241 (by decide) ?_
                          refine lv_icmp_gt (tgt := 273) hx hb dL_areAlike_243 (by decide) (fun c_148 => ?_) (fun c_148 => ?_)
                          · have hf := ite_t hf c_148
                            refine lv_iconst (v := 1) hx hb dL_areAlike_273 (by decide) ?_
                            refine lv_goto (tgt := 278) hx hb dL_areAlike_274 (by decide) ?_
                            cases hf
                            exact K_138 _ _ hP hD hS _ (lv_sub hl [0, 1, 3, 4] rfl)
                          · have hf := ite_f hf c_148
                            refine lv_aload_n hx hb dL_areAlike_246 rfl (lv_at hl 0 rfl) ?_
                            refine lv_bipush (v := 97) hx hb dL_areAlike_247 (by decide) ?_
                            refine lv_iload_n hx hb dL_areAlike_249 rfl (lv_at hl 3 rfl) ?_
                            refine lv_iadd hx hb dL_areAlike_250 ?_
                            refine lv_i2c hx hb dL_areAlike_251 rfl ?_
                            refine lv_iload hx hb dL_areAlike_252 (lv_at hl 4 rfl) ?_
                            obtain ⟨⟨r_149, u_150⟩, q_151, hf⟩ := bnd hf
                            refine mGoiS (segs := [(FS cI cC cT a u_142), (FS cI cC cT b v_145)]) (wcs := [(FS cI cC cT a u_142)]) (w1s := [(FS cI cC cT a u_150)]) (w2s := [(FS cI cC cT a u_150), (FS cI cC cT b v_145)]) flat1 flat1 (va_runV (As := [.int (((97 + v3_118).toUInt32 % 65536).toInt32), .int v4_130]) (rest := []) ⟨hx, hb, hml, hown, hts⟩ (c_Y5_value l D cI cC cT a u_142 H.size (((97 + v3_118).toUInt32 % 65536).toInt32) v4_130 r_149 u_150 q_151) (cwV 2 hts gL_areAlike_X5_value rfl rfl rfl (by decide +kernel) ⟨Nat.le_of_ble_eq_true rfl, Nat.le_of_ble_eq_true rfl⟩) (mPreVS [(FS cI cC cT a u_142)] flat1 hP hD hK hN [0] rfl (by decide) (va_recv hK (sP hP 0 rfl) (ci := 5) (q0 := 0) rfl (FS0 cI cC cT a u_142))) rfl rfl hl.1 rfl (lv_room (Nat.le_of_ble_eq_true rfl)) dL_areAlike_254 ⟨Nat.le_of_ble_eq_true rfl, Nat.le_of_ble_eq_true rfl⟩) hP hD hS hA [0] rfl rfl rfl rfl (fun H locs hP hD hS => ?_)
                            refine lv_aload_n hx hb dL_areAlike_257 rfl (lv_at hl 1 rfl) ?_
                            refine lv_bipush (v := 97) hx hb dL_areAlike_258 (by decide) ?_
                            refine lv_iload_n hx hb dL_areAlike_260 rfl (lv_at hl 3 rfl) ?_
                            refine lv_iadd hx hb dL_areAlike_261 ?_
                            obtain ⟨r_152, q_153, hf⟩ := bnd hf
                            refine mGoiS (segs := [(FS cI cC cT a u_150), (FS cI cC cT b v_145)]) (wcs := []) (w1s := []) (w2s := [(FS cI cC cT a u_150), (FS cI cC cT b v_145)]) rfl rfl (va_runS (As := [.int (97 + v3_118)]) (rest := [.ref (b 0), .int r_149]) ⟨hx, hb, hml, hown, hts⟩ (c_L_value l D cI cC cT H.size (97 + v3_118) r_152 q_153) (va_cwS 1 hts gL_areAlike_L_value rfl rfl rfl (by decide +kernel) ⟨Nat.le_of_ble_eq_true rfl, Nat.le_of_ble_eq_true rfl⟩) (mPreSS [] rfl hP hD hK hN [] rfl (by decide)) rfl rfl hl.1 rfl (lv_room (Nat.le_of_ble_eq_true rfl)) dL_areAlike_262 ⟨Nat.le_of_ble_eq_true rfl, Nat.le_of_ble_eq_true rfl⟩) hP hD hS hA [] rfl rfl rfl rfl (fun H locs hP hD hS => ?_)
                            refine lv_iload hx hb dL_areAlike_265 (lv_at hl 4 rfl) ?_
                            obtain ⟨⟨r_154, v_155⟩, q_156, hf⟩ := bnd hf
                            refine mGoiS (segs := [(FS cI cC cT a u_150), (FS cI cC cT b v_145)]) (wcs := [(FS cI cC cT b v_145)]) (w1s := [(FS cI cC cT b v_155)]) (w2s := [(FS cI cC cT a u_150), (FS cI cC cT b v_155)]) flat1 flat1 (va_runV (As := [.int r_152, .int v4_130]) (rest := [.int r_149]) ⟨hx, hb, hml, hown, hts⟩ (c_Y5_value l D cI cC cT b v_145 H.size r_152 v4_130 r_154 v_155 q_156) (cwV 2 hts gL_areAlike_X5_value rfl rfl rfl (by decide +kernel) ⟨Nat.le_of_ble_eq_true rfl, Nat.le_of_ble_eq_true rfl⟩) (mPreVS [(FS cI cC cT b v_145)] flat1 hP hD hK hN [1] rfl (by decide) (va_recv hK (sP hP 1 rfl) (ci := 5) (q0 := 0) rfl (FS0 cI cC cT b v_145))) rfl rfl hl.1 rfl (lv_room (Nat.le_of_ble_eq_true rfl)) dL_areAlike_267 ⟨Nat.le_of_ble_eq_true rfl, Nat.le_of_ble_eq_true rfl⟩) hP hD hS hA [1] rfl rfl rfl rfl (fun H locs hP hD hS => ?_)
                            refine lv_icmp_ne (tgt := 277) hx hb dL_areAlike_270 (by decide) (fun c_157 => ?_) (fun c_157 => ?_)
                            · have hf := ite_f hf c_157
                              refine lv_iconst (v := 0) hx hb dL_areAlike_277 (by decide) ?_
                              cases hf
                              exact K_138 _ _ hP hD hS _ (lv_sub hl [0, 1, 3, 4] rfl)
                            · have hf := ite_t hf c_157
                              refine lv_iconst (v := 1) hx hb dL_areAlike_273 (by decide) ?_
                              refine lv_goto (tgt := 278) hx hb dL_areAlike_274 (by decide) ?_
                              cases hf
                              exact K_138 _ _ hP hD hS _ (lv_sub hl [0, 1, 3, 4] rfl)
                exact LP_133 _ _ _ _ _ hf _ _ hP hD hS _ (lv_sub hl [1, 2, 3, 4, 0] rfl)
        exact LP_121 _ _ _ _ _ hf _ _ hP hD hS _ (lv_sub hl [1, 2, 3, 0] rfl)
      have hf := q_48
      have LP_53 : ∀ (n_53 : Nat) (v2_49 : Int32) (v3_50 : Int32) (u_51 : SSt) (v_52 : SSt), iter n_53 (b_L_areAlike_2) ((v2_49, v3_50, u_51, v_52)) = some ((x_44, u_45, v_46)) → ∀ (H : Heap) (locs : List Loc), va_P D vwCl (List.flatten [(FS cI cC cT a u_51), (FS cI cC cT b v_52)]) H → va_D A (List.flatten [(FS cI cC cT a u_51), (FS cI cC cT b v_52)]) → va_S A s.heap H locs → ∀ (ls : Array Slot), lv_has ls 6 [(0, .ref (a 0)), (1, .ref (b 0)), (2, .int v2_49), (3, .int v3_50)] → W p l e rm_L_areAlike s m ([.ref (a 0), .ref (b 0)] : List Value).toArray below meth c H locs 0 0 (MQ below (mQi D (mTY cI cC cT) out A (List.flatten [(FS cI cC cT a o_u), (FS cI cC cT b o_v)])) ([.ref (a 0), .ref (b 0)] : List Value).toArray s 0 0 A) (F0 m 71 ls []) := by
        intro n_53
        induction n_53 with
        | zero => intro v2_49 v3_50 u_51 v_52 hf; exact (iter_zero hf).elim
        | succ n_53 ih_53 =>
          intro v2_49 v3_50 u_51 v_52 hf H locs hP hD hS ls hl
          obtain ⟨o_53, hf, ho_53⟩ := iter_succ hf
          dsimp only [b_L_areAlike_2] at hf
          refine lv_iload_n hx hb dL_areAlike_71 rfl (lv_at hl 3 rfl) ?_
          refine lv_aload_n hx hb dL_areAlike_72 rfl (lv_at hl 0 rfl) ?_
          refine lv_iconst (v := 0) hx hb dL_areAlike_73 (by decide) ?_
          obtain ⟨⟨r_54, u_55⟩, q_56, hf⟩ := bnd hf
          refine mGoiS (segs := [(FS cI cC cT a u_51), (FS cI cC cT b v_52)]) (wcs := [(FS cI cC cT a u_51)]) (w1s := [(FS cI cC cT a u_55)]) (w2s := [(FS cI cC cT a u_55), (FS cI cC cT b v_52)]) flat1 flat1 (va_runV (As := [.int 0]) (rest := [.int v3_50]) ⟨hx, hb, hml, hown, hts⟩ (c_Y5_count l D cI cC cT a u_51 H.size 0 r_54 u_55 q_56) (cwV 1 hts gL_areAlike_X5_count rfl rfl rfl (by decide +kernel) ⟨Nat.le_of_ble_eq_true rfl, Nat.le_of_ble_eq_true rfl⟩) (mPreVS [(FS cI cC cT a u_51)] flat1 hP hD hK hN [0] rfl (by decide) (va_recv hK (sP hP 0 rfl) (ci := 5) (q0 := 0) rfl (FS0 cI cC cT a u_51))) rfl rfl hl.1 rfl (lv_room (Nat.le_of_ble_eq_true rfl)) dL_areAlike_74 ⟨Nat.le_of_ble_eq_true rfl, Nat.le_of_ble_eq_true rfl⟩) hP hD hS hA [0] rfl rfl rfl rfl (fun H locs hP hD hS => ?_)
          refine lv_icmp_ge (tgt := 195) hx hb dL_areAlike_77 (by decide) (fun c_57 => ?_) (fun c_57 => ?_)
          · have hf := ite_t hf c_57
            cases hf
            have hf := ho_53.2 _ rfl
            cases hf
            exact K_47 _ _ hP hD hS _ (lv_sub hl [0, 1, 2] rfl)
          · have hf := ite_f hf c_57
            refine lv_iload_n hx hb dL_areAlike_80 rfl (lv_at hl 2 rfl) ?_
            refine lv_if_eq (tgt := 195) hx hb dL_areAlike_81 (by decide) (fun c_58 => ?_) (fun c_58 => ?_)
            · have hf := ite_t hf c_58
              cases hf
              have hf := ho_53.2 _ rfl
              cases hf
              exact K_47 _ _ hP hD hS _ (lv_sub hl [0, 1, 2] rfl)
            · have hf := ite_f hf c_58
              refine lv_aload_n hx hb dL_areAlike_84 rfl (lv_at hl 0 rfl) ?_
              refine lv_iload_n hx hb dL_areAlike_85 rfl (lv_at hl 3 rfl) ?_
              refine lv_iconst (v := 0) hx hb dL_areAlike_86 (by decide) ?_
              obtain ⟨⟨r_59, u_60⟩, q_61, hf⟩ := bnd hf
              refine mGoiS (segs := [(FS cI cC cT a u_55), (FS cI cC cT b v_52)]) (wcs := [(FS cI cC cT a u_55)]) (w1s := [(FS cI cC cT a u_60)]) (w2s := [(FS cI cC cT a u_60), (FS cI cC cT b v_52)]) flat1 flat1 (va_runV (As := [.int v3_50, .int 0]) (rest := []) ⟨hx, hb, hml, hown, hts⟩ (c_Y5_row l D cI cC cT a u_55 H.size v3_50 0 r_59 u_60 q_61) (cwV 2 hts gL_areAlike_X5_row rfl rfl rfl (by decide +kernel) ⟨Nat.le_of_ble_eq_true rfl, Nat.le_of_ble_eq_true rfl⟩) (mPreVS [(FS cI cC cT a u_55)] flat1 hP hD hK hN [0] rfl (by decide) (va_recv hK (sP hP 0 rfl) (ci := 5) (q0 := 0) rfl (FS0 cI cC cT a u_55))) rfl rfl hl.1 rfl (lv_room (Nat.le_of_ble_eq_true rfl)) dL_areAlike_87 ⟨Nat.le_of_ble_eq_true rfl, Nat.le_of_ble_eq_true rfl⟩) hP hD hS hA [0] rfl rfl rfl rfl (fun H locs hP hD hS => ?_)
              obtain ⟨r_62, q_63, hf⟩ := bnd hf
              refine mGoiS (segs := [(FS cI cC cT a u_60), (FS cI cC cT b v_52)]) (wcs := []) (w1s := []) (w2s := [(FS cI cC cT a u_60), (FS cI cC cT b v_52)]) rfl rfl (va_runS (As := [.int r_59]) (rest := []) ⟨hx, hb, hml, hown, hts⟩ (c_L_there l D cI cC cT H.size r_59 r_62 q_63) (va_cwS 1 hts gL_areAlike_L_there rfl rfl rfl (by decide +kernel) ⟨Nat.le_of_ble_eq_true rfl, Nat.le_of_ble_eq_true rfl⟩) (mPreSS [] rfl hP hD hK hN [] rfl (by decide)) rfl rfl hl.1 rfl (lv_room (Nat.le_of_ble_eq_true rfl)) dL_areAlike_90 ⟨Nat.le_of_ble_eq_true rfl, Nat.le_of_ble_eq_true rfl⟩) hP hD hS hA [] rfl rfl rfl rfl (fun H locs hP hD hS => ?_)
              refine lv_aload_n hx hb dL_areAlike_93 rfl (lv_at hl 1 rfl) ?_
              refine lv_iload_n hx hb dL_areAlike_94 rfl (lv_at hl 3 rfl) ?_
              refine lv_iconst (v := 0) hx hb dL_areAlike_95 (by decide) ?_
              obtain ⟨⟨r_64, v_65⟩, q_66, hf⟩ := bnd hf
              refine mGoiS (segs := [(FS cI cC cT a u_60), (FS cI cC cT b v_52)]) (wcs := [(FS cI cC cT b v_52)]) (w1s := [(FS cI cC cT b v_65)]) (w2s := [(FS cI cC cT a u_60), (FS cI cC cT b v_65)]) flat1 flat1 (va_runV (As := [.int v3_50, .int 0]) (rest := [.int r_62]) ⟨hx, hb, hml, hown, hts⟩ (c_Y5_row l D cI cC cT b v_52 H.size v3_50 0 r_64 v_65 q_66) (cwV 2 hts gL_areAlike_X5_row rfl rfl rfl (by decide +kernel) ⟨Nat.le_of_ble_eq_true rfl, Nat.le_of_ble_eq_true rfl⟩) (mPreVS [(FS cI cC cT b v_52)] flat1 hP hD hK hN [1] rfl (by decide) (va_recv hK (sP hP 1 rfl) (ci := 5) (q0 := 0) rfl (FS0 cI cC cT b v_52))) rfl rfl hl.1 rfl (lv_room (Nat.le_of_ble_eq_true rfl)) dL_areAlike_96 ⟨Nat.le_of_ble_eq_true rfl, Nat.le_of_ble_eq_true rfl⟩) hP hD hS hA [1] rfl rfl rfl rfl (fun H locs hP hD hS => ?_)
              obtain ⟨⟨x_67, u_68, v_69⟩, q_71, hf⟩ := bnd hf
              have K_70 : ∀ (H : Heap) (locs : List Loc), va_P D vwCl (List.flatten [(FS cI cC cT a u_68), (FS cI cC cT b v_69)]) H → va_D A (List.flatten [(FS cI cC cT a u_68), (FS cI cC cT b v_69)]) → va_S A s.heap H locs → ∀ (ls : Array Slot), lv_has ls 6 [(0, .ref (a 0)), (1, .ref (b 0)), (3, .int v3_50)] → W p l e rm_L_areAlike s m ([.ref (a 0), .ref (b 0)] : List Value).toArray below meth c H locs 0 0 (MQ below (mQi D (mTY cI cC cT) out A (List.flatten [(FS cI cC cT a o_u), (FS cI cC cT b o_v)])) ([.ref (a 0), .ref (b 0)] : List Value).toArray s 0 0 A) (F0 m 188 ls [.int x_67]) := by
                intro H locs hP hD hS ls hl
                refine lv_istore_n (lv' := [(2, .int x_67), (0, .ref (a 0)), (1, .ref (b 0)), (3, .int v3_50)]) hx hb dL_areAlike_188 rfl hl (by decide) rfl (fun ls hl => ?_)
                refine lv_iinc (v := v3_50 + 1) (lv' := [(3, .int (v3_50 + 1)), (2, .int x_67), (0, .ref (a 0)), (1, .ref (b 0))]) hx hb dL_areAlike_189 hl (k := 3) rfl rfl (by decide) rfl (fun ls hl => ?_)
                refine lv_goto (tgt := 71) hx hb dL_areAlike_192 (by decide) ?_
                cases hf
                have hf := ho_53.1 _ rfl
                exact ih_53 _ _ _ _ hf _ _ hP hD hS _ (lv_sub hl [2, 3, 1, 0] rfl)
              have hf := q_71
              refine lv_icmp_ne (tgt := 187) hx hb dL_areAlike_99 (by decide) (fun c_72 => ?_) (fun c_72 => ?_)
              · have hf := ite_f hf c_72
                refine lv_iconst (v := 0) hx hb dL_areAlike_187 (by decide) ?_
                cases hf
                exact K_70 _ _ hP hD hS _ (lv_sub hl [0, 1, 3] rfl)
              · have hf := ite_t hf c_72
                refine lv_aload_n hx hb dL_areAlike_102 rfl (lv_at hl 0 rfl) ?_
                refine lv_iload_n hx hb dL_areAlike_103 rfl (lv_at hl 3 rfl) ?_
                refine lv_iconst (v := 1) hx hb dL_areAlike_104 (by decide) ?_
                obtain ⟨⟨r_73, u_74⟩, q_75, hf⟩ := bnd hf
                refine mGoiS (segs := [(FS cI cC cT a u_60), (FS cI cC cT b v_65)]) (wcs := [(FS cI cC cT a u_60)]) (w1s := [(FS cI cC cT a u_74)]) (w2s := [(FS cI cC cT a u_74), (FS cI cC cT b v_65)]) flat1 flat1 (va_runV (As := [.int v3_50, .int 1]) (rest := []) ⟨hx, hb, hml, hown, hts⟩ (c_Y5_row l D cI cC cT a u_60 H.size v3_50 1 r_73 u_74 q_75) (cwV 2 hts gL_areAlike_X5_row rfl rfl rfl (by decide +kernel) ⟨Nat.le_of_ble_eq_true rfl, Nat.le_of_ble_eq_true rfl⟩) (mPreVS [(FS cI cC cT a u_60)] flat1 hP hD hK hN [0] rfl (by decide) (va_recv hK (sP hP 0 rfl) (ci := 5) (q0 := 0) rfl (FS0 cI cC cT a u_60))) rfl rfl hl.1 rfl (lv_room (Nat.le_of_ble_eq_true rfl)) dL_areAlike_105 ⟨Nat.le_of_ble_eq_true rfl, Nat.le_of_ble_eq_true rfl⟩) hP hD hS hA [0] rfl rfl rfl rfl (fun H locs hP hD hS => ?_)
                obtain ⟨r_76, q_77, hf⟩ := bnd hf
                refine mGoiS (segs := [(FS cI cC cT a u_74), (FS cI cC cT b v_65)]) (wcs := []) (w1s := []) (w2s := [(FS cI cC cT a u_74), (FS cI cC cT b v_65)]) rfl rfl (va_runS (As := [.int r_73]) (rest := []) ⟨hx, hb, hml, hown, hts⟩ (c_L_value l D cI cC cT H.size r_73 r_76 q_77) (va_cwS 1 hts gL_areAlike_L_value rfl rfl rfl (by decide +kernel) ⟨Nat.le_of_ble_eq_true rfl, Nat.le_of_ble_eq_true rfl⟩) (mPreSS [] rfl hP hD hK hN [] rfl (by decide)) rfl rfl hl.1 rfl (lv_room (Nat.le_of_ble_eq_true rfl)) dL_areAlike_108 ⟨Nat.le_of_ble_eq_true rfl, Nat.le_of_ble_eq_true rfl⟩) hP hD hS hA [] rfl rfl rfl rfl (fun H locs hP hD hS => ?_)
                refine lv_aload_n hx hb dL_areAlike_111 rfl (lv_at hl 1 rfl) ?_
                refine lv_iload_n hx hb dL_areAlike_112 rfl (lv_at hl 3 rfl) ?_
                refine lv_iconst (v := 1) hx hb dL_areAlike_113 (by decide) ?_
                obtain ⟨⟨r_78, v_79⟩, q_80, hf⟩ := bnd hf
                refine mGoiS (segs := [(FS cI cC cT a u_74), (FS cI cC cT b v_65)]) (wcs := [(FS cI cC cT b v_65)]) (w1s := [(FS cI cC cT b v_79)]) (w2s := [(FS cI cC cT a u_74), (FS cI cC cT b v_79)]) flat1 flat1 (va_runV (As := [.int v3_50, .int 1]) (rest := [.int r_76]) ⟨hx, hb, hml, hown, hts⟩ (c_Y5_row l D cI cC cT b v_65 H.size v3_50 1 r_78 v_79 q_80) (cwV 2 hts gL_areAlike_X5_row rfl rfl rfl (by decide +kernel) ⟨Nat.le_of_ble_eq_true rfl, Nat.le_of_ble_eq_true rfl⟩) (mPreVS [(FS cI cC cT b v_65)] flat1 hP hD hK hN [1] rfl (by decide) (va_recv hK (sP hP 1 rfl) (ci := 5) (q0 := 0) rfl (FS0 cI cC cT b v_65))) rfl rfl hl.1 rfl (lv_room (Nat.le_of_ble_eq_true rfl)) dL_areAlike_114 ⟨Nat.le_of_ble_eq_true rfl, Nat.le_of_ble_eq_true rfl⟩) hP hD hS hA [1] rfl rfl rfl rfl (fun H locs hP hD hS => ?_)
                refine lv_icmp_ne (tgt := 187) hx hb dL_areAlike_117 (by decide) (fun c_81 => ?_) (fun c_81 => ?_)
                · have hf := ite_f hf c_81
                  refine lv_iconst (v := 0) hx hb dL_areAlike_187 (by decide) ?_
                  cases hf
                  exact K_70 _ _ hP hD hS _ (lv_sub hl [0, 1, 3] rfl)
                · have hf := ite_t hf c_81
                  refine lv_aload_n hx hb dL_areAlike_120 rfl (lv_at hl 0 rfl) ?_
                  refine lv_iload_n hx hb dL_areAlike_121 rfl (lv_at hl 3 rfl) ?_
                  refine lv_iconst (v := 2) hx hb dL_areAlike_122 (by decide) ?_
                  obtain ⟨⟨r_82, u_83⟩, q_84, hf⟩ := bnd hf
                  refine mGoiS (segs := [(FS cI cC cT a u_74), (FS cI cC cT b v_79)]) (wcs := [(FS cI cC cT a u_74)]) (w1s := [(FS cI cC cT a u_83)]) (w2s := [(FS cI cC cT a u_83), (FS cI cC cT b v_79)]) flat1 flat1 (va_runV (As := [.int v3_50, .int 2]) (rest := []) ⟨hx, hb, hml, hown, hts⟩ (c_Y5_row l D cI cC cT a u_74 H.size v3_50 2 r_82 u_83 q_84) (cwV 2 hts gL_areAlike_X5_row rfl rfl rfl (by decide +kernel) ⟨Nat.le_of_ble_eq_true rfl, Nat.le_of_ble_eq_true rfl⟩) (mPreVS [(FS cI cC cT a u_74)] flat1 hP hD hK hN [0] rfl (by decide) (va_recv hK (sP hP 0 rfl) (ci := 5) (q0 := 0) rfl (FS0 cI cC cT a u_74))) rfl rfl hl.1 rfl (lv_room (Nat.le_of_ble_eq_true rfl)) dL_areAlike_123 ⟨Nat.le_of_ble_eq_true rfl, Nat.le_of_ble_eq_true rfl⟩) hP hD hS hA [0] rfl rfl rfl rfl (fun H locs hP hD hS => ?_)
                  refine lv_aload_n hx hb dL_areAlike_126 rfl (lv_at hl 1 rfl) ?_
                  refine lv_iload_n hx hb dL_areAlike_127 rfl (lv_at hl 3 rfl) ?_
                  refine lv_iconst (v := 2) hx hb dL_areAlike_128 (by decide) ?_
                  obtain ⟨⟨r_85, v_86⟩, q_87, hf⟩ := bnd hf
                  refine mGoiS (segs := [(FS cI cC cT a u_83), (FS cI cC cT b v_79)]) (wcs := [(FS cI cC cT b v_79)]) (w1s := [(FS cI cC cT b v_86)]) (w2s := [(FS cI cC cT a u_83), (FS cI cC cT b v_86)]) flat1 flat1 (va_runV (As := [.int v3_50, .int 2]) (rest := [.int r_82]) ⟨hx, hb, hml, hown, hts⟩ (c_Y5_row l D cI cC cT b v_79 H.size v3_50 2 r_85 v_86 q_87) (cwV 2 hts gL_areAlike_X5_row rfl rfl rfl (by decide +kernel) ⟨Nat.le_of_ble_eq_true rfl, Nat.le_of_ble_eq_true rfl⟩) (mPreVS [(FS cI cC cT b v_79)] flat1 hP hD hK hN [1] rfl (by decide) (va_recv hK (sP hP 1 rfl) (ci := 5) (q0 := 0) rfl (FS0 cI cC cT b v_79))) rfl rfl hl.1 rfl (lv_room (Nat.le_of_ble_eq_true rfl)) dL_areAlike_129 ⟨Nat.le_of_ble_eq_true rfl, Nat.le_of_ble_eq_true rfl⟩) hP hD hS hA [1] rfl rfl rfl rfl (fun H locs hP hD hS => ?_)
                  refine lv_icmp_ne (tgt := 187) hx hb dL_areAlike_132 (by decide) (fun c_88 => ?_) (fun c_88 => ?_)
                  · have hf := ite_f hf c_88
                    refine lv_iconst (v := 0) hx hb dL_areAlike_187 (by decide) ?_
                    cases hf
                    exact K_70 _ _ hP hD hS _ (lv_sub hl [0, 1, 3] rfl)
                  · have hf := ite_t hf c_88
                    refine lv_aload_n hx hb dL_areAlike_135 rfl (lv_at hl 0 rfl) ?_
                    refine lv_iload_n hx hb dL_areAlike_136 rfl (lv_at hl 3 rfl) ?_
                    refine lv_iconst (v := 3) hx hb dL_areAlike_137 (by decide) ?_
                    obtain ⟨⟨r_89, u_90⟩, q_91, hf⟩ := bnd hf
                    refine mGoiS (segs := [(FS cI cC cT a u_83), (FS cI cC cT b v_86)]) (wcs := [(FS cI cC cT a u_83)]) (w1s := [(FS cI cC cT a u_90)]) (w2s := [(FS cI cC cT a u_90), (FS cI cC cT b v_86)]) flat1 flat1 (va_runV (As := [.int v3_50, .int 3]) (rest := []) ⟨hx, hb, hml, hown, hts⟩ (c_Y5_row l D cI cC cT a u_83 H.size v3_50 3 r_89 u_90 q_91) (cwV 2 hts gL_areAlike_X5_row rfl rfl rfl (by decide +kernel) ⟨Nat.le_of_ble_eq_true rfl, Nat.le_of_ble_eq_true rfl⟩) (mPreVS [(FS cI cC cT a u_83)] flat1 hP hD hK hN [0] rfl (by decide) (va_recv hK (sP hP 0 rfl) (ci := 5) (q0 := 0) rfl (FS0 cI cC cT a u_83))) rfl rfl hl.1 rfl (lv_room (Nat.le_of_ble_eq_true rfl)) dL_areAlike_138 ⟨Nat.le_of_ble_eq_true rfl, Nat.le_of_ble_eq_true rfl⟩) hP hD hS hA [0] rfl rfl rfl rfl (fun H locs hP hD hS => ?_)
                    obtain ⟨r_92, q_93, hf⟩ := bnd hf
                    refine mGoiS (segs := [(FS cI cC cT a u_90), (FS cI cC cT b v_86)]) (wcs := []) (w1s := []) (w2s := [(FS cI cC cT a u_90), (FS cI cC cT b v_86)]) rfl rfl (va_runS (As := [.int r_89]) (rest := []) ⟨hx, hb, hml, hown, hts⟩ (c_L_there l D cI cC cT H.size r_89 r_92 q_93) (va_cwS 1 hts gL_areAlike_L_there rfl rfl rfl (by decide +kernel) ⟨Nat.le_of_ble_eq_true rfl, Nat.le_of_ble_eq_true rfl⟩) (mPreSS [] rfl hP hD hK hN [] rfl (by decide)) rfl rfl hl.1 rfl (lv_room (Nat.le_of_ble_eq_true rfl)) dL_areAlike_141 ⟨Nat.le_of_ble_eq_true rfl, Nat.le_of_ble_eq_true rfl⟩) hP hD hS hA [] rfl rfl rfl rfl (fun H locs hP hD hS => ?_)
                    refine lv_aload_n hx hb dL_areAlike_144 rfl (lv_at hl 1 rfl) ?_
                    refine lv_iload_n hx hb dL_areAlike_145 rfl (lv_at hl 3 rfl) ?_
                    refine lv_iconst (v := 3) hx hb dL_areAlike_146 (by decide) ?_
                    obtain ⟨⟨r_94, v_95⟩, q_96, hf⟩ := bnd hf
                    refine mGoiS (segs := [(FS cI cC cT a u_90), (FS cI cC cT b v_86)]) (wcs := [(FS cI cC cT b v_86)]) (w1s := [(FS cI cC cT b v_95)]) (w2s := [(FS cI cC cT a u_90), (FS cI cC cT b v_95)]) flat1 flat1 (va_runV (As := [.int v3_50, .int 3]) (rest := [.int r_92]) ⟨hx, hb, hml, hown, hts⟩ (c_Y5_row l D cI cC cT b v_86 H.size v3_50 3 r_94 v_95 q_96) (cwV 2 hts gL_areAlike_X5_row rfl rfl rfl (by decide +kernel) ⟨Nat.le_of_ble_eq_true rfl, Nat.le_of_ble_eq_true rfl⟩) (mPreVS [(FS cI cC cT b v_86)] flat1 hP hD hK hN [1] rfl (by decide) (va_recv hK (sP hP 1 rfl) (ci := 5) (q0 := 0) rfl (FS0 cI cC cT b v_86))) rfl rfl hl.1 rfl (lv_room (Nat.le_of_ble_eq_true rfl)) dL_areAlike_147 ⟨Nat.le_of_ble_eq_true rfl, Nat.le_of_ble_eq_true rfl⟩) hP hD hS hA [1] rfl rfl rfl rfl (fun H locs hP hD hS => ?_)
                    refine lv_icmp_ne (tgt := 187) hx hb dL_areAlike_150 (by decide) (fun c_97 => ?_) (fun c_97 => ?_)
                    · have hf := ite_f hf c_97
                      refine lv_iconst (v := 0) hx hb dL_areAlike_187 (by decide) ?_
                      cases hf
                      exact K_70 _ _ hP hD hS _ (lv_sub hl [0, 1, 3] rfl)
                    · have hf := ite_t hf c_97
                      refine lv_aload_n hx hb dL_areAlike_153 rfl (lv_at hl 0 rfl) ?_
                      refine lv_iload_n hx hb dL_areAlike_154 rfl (lv_at hl 3 rfl) ?_
                      refine lv_iconst (v := 4) hx hb dL_areAlike_155 (by decide) ?_
                      obtain ⟨⟨r_98, u_99⟩, q_100, hf⟩ := bnd hf
                      refine mGoiS (segs := [(FS cI cC cT a u_90), (FS cI cC cT b v_95)]) (wcs := [(FS cI cC cT a u_90)]) (w1s := [(FS cI cC cT a u_99)]) (w2s := [(FS cI cC cT a u_99), (FS cI cC cT b v_95)]) flat1 flat1 (va_runV (As := [.int v3_50, .int 4]) (rest := []) ⟨hx, hb, hml, hown, hts⟩ (c_Y5_row l D cI cC cT a u_90 H.size v3_50 4 r_98 u_99 q_100) (cwV 2 hts gL_areAlike_X5_row rfl rfl rfl (by decide +kernel) ⟨Nat.le_of_ble_eq_true rfl, Nat.le_of_ble_eq_true rfl⟩) (mPreVS [(FS cI cC cT a u_90)] flat1 hP hD hK hN [0] rfl (by decide) (va_recv hK (sP hP 0 rfl) (ci := 5) (q0 := 0) rfl (FS0 cI cC cT a u_90))) rfl rfl hl.1 rfl (lv_room (Nat.le_of_ble_eq_true rfl)) dL_areAlike_156 ⟨Nat.le_of_ble_eq_true rfl, Nat.le_of_ble_eq_true rfl⟩) hP hD hS hA [0] rfl rfl rfl rfl (fun H locs hP hD hS => ?_)
                      refine lv_aload_n hx hb dL_areAlike_159 rfl (lv_at hl 1 rfl) ?_
                      refine lv_iload_n hx hb dL_areAlike_160 rfl (lv_at hl 3 rfl) ?_
                      refine lv_iconst (v := 4) hx hb dL_areAlike_161 (by decide) ?_
                      obtain ⟨⟨r_101, v_102⟩, q_103, hf⟩ := bnd hf
                      refine mGoiS (segs := [(FS cI cC cT a u_99), (FS cI cC cT b v_95)]) (wcs := [(FS cI cC cT b v_95)]) (w1s := [(FS cI cC cT b v_102)]) (w2s := [(FS cI cC cT a u_99), (FS cI cC cT b v_102)]) flat1 flat1 (va_runV (As := [.int v3_50, .int 4]) (rest := [.int r_98]) ⟨hx, hb, hml, hown, hts⟩ (c_Y5_row l D cI cC cT b v_95 H.size v3_50 4 r_101 v_102 q_103) (cwV 2 hts gL_areAlike_X5_row rfl rfl rfl (by decide +kernel) ⟨Nat.le_of_ble_eq_true rfl, Nat.le_of_ble_eq_true rfl⟩) (mPreVS [(FS cI cC cT b v_95)] flat1 hP hD hK hN [1] rfl (by decide) (va_recv hK (sP hP 1 rfl) (ci := 5) (q0 := 0) rfl (FS0 cI cC cT b v_95))) rfl rfl hl.1 rfl (lv_room (Nat.le_of_ble_eq_true rfl)) dL_areAlike_162 ⟨Nat.le_of_ble_eq_true rfl, Nat.le_of_ble_eq_true rfl⟩) hP hD hS hA [1] rfl rfl rfl rfl (fun H locs hP hD hS => ?_)
                      refine lv_icmp_ne (tgt := 187) hx hb dL_areAlike_165 (by decide) (fun c_104 => ?_) (fun c_104 => ?_)
                      · have hf := ite_f hf c_104
                        refine lv_iconst (v := 0) hx hb dL_areAlike_187 (by decide) ?_
                        cases hf
                        exact K_70 _ _ hP hD hS _ (lv_sub hl [0, 1, 3] rfl)
                      · have hf := ite_t hf c_104
                        refine lv_aload_n hx hb dL_areAlike_168 rfl (lv_at hl 0 rfl) ?_
                        refine lv_iload_n hx hb dL_areAlike_169 rfl (lv_at hl 3 rfl) ?_
                        refine lv_iconst (v := 5) hx hb dL_areAlike_170 (by decide) ?_
                        obtain ⟨⟨r_105, u_106⟩, q_107, hf⟩ := bnd hf
                        refine mGoiS (segs := [(FS cI cC cT a u_99), (FS cI cC cT b v_102)]) (wcs := [(FS cI cC cT a u_99)]) (w1s := [(FS cI cC cT a u_106)]) (w2s := [(FS cI cC cT a u_106), (FS cI cC cT b v_102)]) flat1 flat1 (va_runV (As := [.int v3_50, .int 5]) (rest := []) ⟨hx, hb, hml, hown, hts⟩ (c_Y5_row l D cI cC cT a u_99 H.size v3_50 5 r_105 u_106 q_107) (cwV 2 hts gL_areAlike_X5_row rfl rfl rfl (by decide +kernel) ⟨Nat.le_of_ble_eq_true rfl, Nat.le_of_ble_eq_true rfl⟩) (mPreVS [(FS cI cC cT a u_99)] flat1 hP hD hK hN [0] rfl (by decide) (va_recv hK (sP hP 0 rfl) (ci := 5) (q0 := 0) rfl (FS0 cI cC cT a u_99))) rfl rfl hl.1 rfl (lv_room (Nat.le_of_ble_eq_true rfl)) dL_areAlike_171 ⟨Nat.le_of_ble_eq_true rfl, Nat.le_of_ble_eq_true rfl⟩) hP hD hS hA [0] rfl rfl rfl rfl (fun H locs hP hD hS => ?_)
                        refine lv_aload_n hx hb dL_areAlike_174 rfl (lv_at hl 1 rfl) ?_
                        refine lv_iload_n hx hb dL_areAlike_175 rfl (lv_at hl 3 rfl) ?_
                        refine lv_iconst (v := 5) hx hb dL_areAlike_176 (by decide) ?_
                        obtain ⟨⟨r_108, v_109⟩, q_110, hf⟩ := bnd hf
                        refine mGoiS (segs := [(FS cI cC cT a u_106), (FS cI cC cT b v_102)]) (wcs := [(FS cI cC cT b v_102)]) (w1s := [(FS cI cC cT b v_109)]) (w2s := [(FS cI cC cT a u_106), (FS cI cC cT b v_109)]) flat1 flat1 (va_runV (As := [.int v3_50, .int 5]) (rest := [.int r_105]) ⟨hx, hb, hml, hown, hts⟩ (c_Y5_row l D cI cC cT b v_102 H.size v3_50 5 r_108 v_109 q_110) (cwV 2 hts gL_areAlike_X5_row rfl rfl rfl (by decide +kernel) ⟨Nat.le_of_ble_eq_true rfl, Nat.le_of_ble_eq_true rfl⟩) (mPreVS [(FS cI cC cT b v_102)] flat1 hP hD hK hN [1] rfl (by decide) (va_recv hK (sP hP 1 rfl) (ci := 5) (q0 := 0) rfl (FS0 cI cC cT b v_102))) rfl rfl hl.1 rfl (lv_room (Nat.le_of_ble_eq_true rfl)) dL_areAlike_177 ⟨Nat.le_of_ble_eq_true rfl, Nat.le_of_ble_eq_true rfl⟩) hP hD hS hA [1] rfl rfl rfl rfl (fun H locs hP hD hS => ?_)
                        refine lv_icmp_ne (tgt := 187) hx hb dL_areAlike_180 (by decide) (fun c_111 => ?_) (fun c_111 => ?_)
                        · have hf := ite_f hf c_111
                          refine lv_iconst (v := 0) hx hb dL_areAlike_187 (by decide) ?_
                          cases hf
                          exact K_70 _ _ hP hD hS _ (lv_sub hl [0, 1, 3] rfl)
                        · have hf := ite_t hf c_111
                          refine lv_iconst (v := 1) hx hb dL_areAlike_183 (by decide) ?_
                          refine lv_goto (tgt := 188) hx hb dL_areAlike_184 (by decide) ?_
                          cases hf
                          exact K_70 _ _ hP hD hS _ (lv_sub hl [0, 1, 3] rfl)
      exact LP_53 _ _ _ _ _ hf _ _ hP hD hS _ (lv_sub hl [1, 2, 3, 0] rfl)
    have hf := q_24
    have LP_29 : ∀ (n_29 : Nat) (v2_25 : Int32) (v3_26 : Int32) (u_27 : SSt) (v_28 : SSt), iter n_29 (b_L_areAlike_1) ((v2_25, v3_26, u_27, v_28)) = some ((x_20, u_21, v_22)) → ∀ (H : Heap) (locs : List Loc), va_P D vwCl (List.flatten [(FS cI cC cT a u_27), (FS cI cC cT b v_28)]) H → va_D A (List.flatten [(FS cI cC cT a u_27), (FS cI cC cT b v_28)]) → va_S A s.heap H locs → ∀ (ls : Array Slot), lv_has ls 6 [(0, .ref (a 0)), (1, .ref (b 0)), (2, .int v2_25), (3, .int v3_26)] → W p l e rm_L_areAlike s m ([.ref (a 0), .ref (b 0)] : List Value).toArray below meth c H locs 0 0 (MQ below (mQi D (mTY cI cC cT) out A (List.flatten [(FS cI cC cT a o_u), (FS cI cC cT b o_v)])) ([.ref (a 0), .ref (b 0)] : List Value).toArray s 0 0 A) (F0 m 34 ls []) := by
      intro n_29
      induction n_29 with
      | zero => intro v2_25 v3_26 u_27 v_28 hf; exact (iter_zero hf).elim
      | succ n_29 ih_29 =>
        intro v2_25 v3_26 u_27 v_28 hf H locs hP hD hS ls hl
        obtain ⟨o_29, hf, ho_29⟩ := iter_succ hf
        dsimp only [b_L_areAlike_1] at hf
        refine lv_iload_n hx hb dL_areAlike_34 rfl (lv_at hl 3 rfl) ?_
        refine lv_bipush (v := 10) hx hb dL_areAlike_35 (by decide) ?_
        refine lv_icmp_ge (tgt := 69) hx hb dL_areAlike_37 (by decide) (fun c_30 => ?_) (fun c_30 => ?_)
        · have hf := ite_t hf c_30
          cases hf
          have hf := ho_29.2 _ rfl
          cases hf
          exact K_23 _ _ hP hD hS _ (lv_sub hl [0, 1, 2] rfl)
        · have hf := ite_f hf c_30
          refine lv_iload_n hx hb dL_areAlike_40 rfl (lv_at hl 2 rfl) ?_
          obtain ⟨⟨x_31, u_32, v_33⟩, q_35, hf⟩ := bnd hf
          have K_34 : ∀ (H : Heap) (locs : List Loc), va_P D vwCl (List.flatten [(FS cI cC cT a u_32), (FS cI cC cT b v_33)]) H → va_D A (List.flatten [(FS cI cC cT a u_32), (FS cI cC cT b v_33)]) → va_S A s.heap H locs → ∀ (ls : Array Slot), lv_has ls 6 [(0, .ref (a 0)), (1, .ref (b 0)), (3, .int v3_26)] → W p l e rm_L_areAlike s m ([.ref (a 0), .ref (b 0)] : List Value).toArray below meth c H locs 0 0 (MQ below (mQi D (mTY cI cC cT) out A (List.flatten [(FS cI cC cT a o_u), (FS cI cC cT b o_v)])) ([.ref (a 0), .ref (b 0)] : List Value).toArray s 0 0 A) (F0 m 62 ls [.int x_31]) := by
            intro H locs hP hD hS ls hl
            refine lv_istore_n (lv' := [(2, .int x_31), (0, .ref (a 0)), (1, .ref (b 0)), (3, .int v3_26)]) hx hb dL_areAlike_62 rfl hl (by decide) rfl (fun ls hl => ?_)
            refine lv_iinc (v := v3_26 + 1) (lv' := [(3, .int (v3_26 + 1)), (2, .int x_31), (0, .ref (a 0)), (1, .ref (b 0))]) hx hb dL_areAlike_63 hl (k := 3) rfl rfl (by decide) rfl (fun ls hl => ?_)
            refine lv_goto (tgt := 34) hx hb dL_areAlike_66 (by decide) ?_
            cases hf
            have hf := ho_29.1 _ rfl
            exact ih_29 _ _ _ _ hf _ _ hP hD hS _ (lv_sub hl [2, 3, 1, 0] rfl)
          have hf := q_35
          refine lv_if_eq (tgt := 61) hx hb dL_areAlike_41 (by decide) (fun c_36 => ?_) (fun c_36 => ?_)
          · have hf := ite_t hf c_36
            refine lv_iconst (v := 0) hx hb dL_areAlike_61 (by decide) ?_
            cases hf
            exact K_34 _ _ hP hD hS _ (lv_sub hl [0, 1, 3] rfl)
          · have hf := ite_f hf c_36
            refine lv_aload_n hx hb dL_areAlike_44 rfl (lv_at hl 0 rfl) ?_
            refine lv_iload_n hx hb dL_areAlike_45 rfl (lv_at hl 3 rfl) ?_
            obtain ⟨⟨r_37, u_38⟩, q_39, hf⟩ := bnd hf
            refine mGoiS (segs := [(FS cI cC cT a u_27), (FS cI cC cT b v_28)]) (wcs := [(FS cI cC cT a u_27)]) (w1s := [(FS cI cC cT a u_38)]) (w2s := [(FS cI cC cT a u_38), (FS cI cC cT b v_28)]) flat1 flat1 (va_runV (As := [.int v3_26]) (rest := []) ⟨hx, hb, hml, hown, hts⟩ (c_Y5_count l D cI cC cT a u_27 H.size v3_26 r_37 u_38 q_39) (cwV 1 hts gL_areAlike_X5_count rfl rfl rfl (by decide +kernel) ⟨Nat.le_of_ble_eq_true rfl, Nat.le_of_ble_eq_true rfl⟩) (mPreVS [(FS cI cC cT a u_27)] flat1 hP hD hK hN [0] rfl (by decide) (va_recv hK (sP hP 0 rfl) (ci := 5) (q0 := 0) rfl (FS0 cI cC cT a u_27))) rfl rfl hl.1 rfl (lv_room (Nat.le_of_ble_eq_true rfl)) dL_areAlike_46 ⟨Nat.le_of_ble_eq_true rfl, Nat.le_of_ble_eq_true rfl⟩) hP hD hS hA [0] rfl rfl rfl rfl (fun H locs hP hD hS => ?_)
            refine lv_aload_n hx hb dL_areAlike_49 rfl (lv_at hl 1 rfl) ?_
            refine lv_iload_n hx hb dL_areAlike_50 rfl (lv_at hl 3 rfl) ?_
            obtain ⟨⟨r_40, v_41⟩, q_42, hf⟩ := bnd hf
            refine mGoiS (segs := [(FS cI cC cT a u_38), (FS cI cC cT b v_28)]) (wcs := [(FS cI cC cT b v_28)]) (w1s := [(FS cI cC cT b v_41)]) (w2s := [(FS cI cC cT a u_38), (FS cI cC cT b v_41)]) flat1 flat1 (va_runV (As := [.int v3_26]) (rest := [.int r_37]) ⟨hx, hb, hml, hown, hts⟩ (c_Y5_count l D cI cC cT b v_28 H.size v3_26 r_40 v_41 q_42) (cwV 1 hts gL_areAlike_X5_count rfl rfl rfl (by decide +kernel) ⟨Nat.le_of_ble_eq_true rfl, Nat.le_of_ble_eq_true rfl⟩) (mPreVS [(FS cI cC cT b v_28)] flat1 hP hD hK hN [1] rfl (by decide) (va_recv hK (sP hP 1 rfl) (ci := 5) (q0 := 0) rfl (FS0 cI cC cT b v_28))) rfl rfl hl.1 rfl (lv_room (Nat.le_of_ble_eq_true rfl)) dL_areAlike_51 ⟨Nat.le_of_ble_eq_true rfl, Nat.le_of_ble_eq_true rfl⟩) hP hD hS hA [1] rfl rfl rfl rfl (fun H locs hP hD hS => ?_)
            refine lv_icmp_ne (tgt := 61) hx hb dL_areAlike_54 (by decide) (fun c_43 => ?_) (fun c_43 => ?_)
            · have hf := ite_f hf c_43
              refine lv_iconst (v := 0) hx hb dL_areAlike_61 (by decide) ?_
              cases hf
              exact K_34 _ _ hP hD hS _ (lv_sub hl [0, 1, 3] rfl)
            · have hf := ite_t hf c_43
              refine lv_iconst (v := 1) hx hb dL_areAlike_57 (by decide) ?_
              refine lv_goto (tgt := 62) hx hb dL_areAlike_58 (by decide) ?_
              cases hf
              exact K_34 _ _ hP hD hS _ (lv_sub hl [0, 1, 3] rfl)
    exact LP_29 _ _ _ _ _ hf _ _ hP hD hS _ (lv_sub hl [2, 3, 1, 0] rfl)
  have hf := q_11
  refine lv_icmp_ne (tgt := 30) hx hb dL_areAlike_10 (by decide) (fun c_12 => ?_) (fun c_12 => ?_)
  · have hf := ite_f hf c_12
    refine lv_iconst (v := 0) hx hb dL_areAlike_30 (by decide) ?_
    cases hf
    exact K_10 _ _ hP hD hS _ (lv_sub hl [0, 1] rfl)
  · have hf := ite_t hf c_12
    refine lv_aload_n hx hb dL_areAlike_13 rfl (lv_at hl 0 rfl) ?_
    refine lv_iconst (v := 1) hx hb dL_areAlike_14 (by decide) ?_
    obtain ⟨⟨r_13, u_14⟩, q_15, hf⟩ := bnd hf
    refine mGoiS (segs := [(FS cI cC cT a u_2), (FS cI cC cT b v_5)]) (wcs := [(FS cI cC cT a u_2)]) (w1s := [(FS cI cC cT a u_14)]) (w2s := [(FS cI cC cT a u_14), (FS cI cC cT b v_5)]) flat1 flat1 (va_runV (As := [.int 1]) (rest := []) ⟨hx, hb, hml, hown, hts⟩ (c_Y5_sum l D cI cC cT a u_2 H.size 1 r_13 u_14 q_15) (cwV 1 hts gL_areAlike_X5_sum rfl rfl rfl (by decide +kernel) ⟨Nat.le_of_ble_eq_true rfl, Nat.le_of_ble_eq_true rfl⟩) (mPreVS [(FS cI cC cT a u_2)] flat1 hP hD hK hN [0] rfl (by decide) (va_recv hK (sP hP 0 rfl) (ci := 5) (q0 := 0) rfl (FS0 cI cC cT a u_2))) rfl rfl hl.1 rfl (lv_room (Nat.le_of_ble_eq_true rfl)) dL_areAlike_15 ⟨Nat.le_of_ble_eq_true rfl, Nat.le_of_ble_eq_true rfl⟩) hP hD hS hA [0] rfl rfl rfl rfl (fun H locs hP hD hS => ?_)
    refine lv_aload_n hx hb dL_areAlike_18 rfl (lv_at hl 1 rfl) ?_
    refine lv_iconst (v := 1) hx hb dL_areAlike_19 (by decide) ?_
    obtain ⟨⟨r_16, v_17⟩, q_18, hf⟩ := bnd hf
    refine mGoiS (segs := [(FS cI cC cT a u_14), (FS cI cC cT b v_5)]) (wcs := [(FS cI cC cT b v_5)]) (w1s := [(FS cI cC cT b v_17)]) (w2s := [(FS cI cC cT a u_14), (FS cI cC cT b v_17)]) flat1 flat1 (va_runV (As := [.int 1]) (rest := [.int r_13]) ⟨hx, hb, hml, hown, hts⟩ (c_Y5_sum l D cI cC cT b v_5 H.size 1 r_16 v_17 q_18) (cwV 1 hts gL_areAlike_X5_sum rfl rfl rfl (by decide +kernel) ⟨Nat.le_of_ble_eq_true rfl, Nat.le_of_ble_eq_true rfl⟩) (mPreVS [(FS cI cC cT b v_5)] flat1 hP hD hK hN [1] rfl (by decide) (va_recv hK (sP hP 1 rfl) (ci := 5) (q0 := 0) rfl (FS0 cI cC cT b v_5))) rfl rfl hl.1 rfl (lv_room (Nat.le_of_ble_eq_true rfl)) dL_areAlike_20 ⟨Nat.le_of_ble_eq_true rfl, Nat.le_of_ble_eq_true rfl⟩) hP hD hS hA [1] rfl rfl rfl rfl (fun H locs hP hD hS => ?_)
    refine lv_icmp_ne (tgt := 30) hx hb dL_areAlike_23 (by decide) (fun c_19 => ?_) (fun c_19 => ?_)
    · have hf := ite_f hf c_19
      refine lv_iconst (v := 0) hx hb dL_areAlike_30 (by decide) ?_
      cases hf
      exact K_10 _ _ hP hD hS _ (lv_sub hl [0, 1] rfl)
    · have hf := ite_t hf c_19
      refine lv_iconst (v := 1) hx hb dL_areAlike_26 (by decide) ?_
      refine lv_goto (tgt := 31) hx hb dL_areAlike_27 (by decide) ?_
      cases hf
      exact K_10 _ _ hP hD hS _ (lv_sub hl [0, 1] rfl)
