/-! the script's cells -/
def cellv (L : Nat) (xs : Nat → Int32) (k : Nat) : Int32 := if k < L then xs k else 2102375361 * (nI k + 1093)
def prX (b L : Nat) (xs : Nat → Int32) (U : State) : Prop := va_X b L xs U U.heap ∧ b < U.heap.size
theorem mPX_blind {D : va_G} {ty : List (ClassId × FieldType)} {av : List Value} {W : va_W} {b L sz : Nat} {xs : Nat → Int32} : FrameBlind (va_Pc av (fun U => mPw D ty W sz U ∧ prX b L xs U)) := by
  intro a U g mk h
  obtain ⟨h1, ⟨h2, h3, h4, h5, h6⟩, h7, h8⟩ := h
  exact ⟨h1, ⟨h2, h3, va_K.moved (u := U) (U := U.calling g mk a) (Vm.Alike.refl U.vm) h4, h5, nW_same (u := U) (U := U.calling g mk a) rfl h6⟩, va_X.moved (u := U) (U := U.calling g mk a) (Vm.Alike.refl U.vm) h7, h8⟩
theorem va_P_nil {D : va_G} {H : Heap} : va_P D vwCl [] H := fun k q h => by simp at h
theorem va_D_nil {A : Nat → Prop} : va_D A [] := ⟨fun i j p q h => by simp at h, fun k q h => by simp at h⟩
theorem mPreX0 {D : va_G} {ty : List (ClassId × FieldType)} {s : State} {H : Heap} {As : List Value} {b L : Nat} {xs : Nat → Int32} (hK : va_K D vwCl ty s) (hN : nW s) (hX : va_X b L xs s H) (hb : b < H.size) : PreS s H (va_Pc As (fun U => mPw D ty [] H.size U ∧ prX b L xs U)) As :=
  ⟨mPX_blind, fun U hU hW => ⟨rfl, ⟨by rw [hU], va_P_nil, va_K.moved hW.alike hK, va_D_nil, nW_warm hW hN⟩, by rw [hU]; exact va_X.moved hW.alike hX, by rw [hU]; exact hb⟩⟩
theorem mEntP {l : Launch} {y : MethodName} {ws ws' : List Cond} {rm : Room} {cc : ByteArray} {maxL : Nat} {ret : Option FieldType} {D : va_G} {ty : List (ClassId × FieldType)} {av : List Value} {W0 : va_W} {sz : Nat} {own : String} {Qq : (Nat → Prop) → Array Value → State → Outcome → State → Prop} {Pr : State → Prop}
    (hy : plainName y.cls = true) (hw : ws = Cond.code y cc maxL ret :: ws') (hown : y.cls = own) (hle : (lg_sl av).length ≤ maxL)
    (body : ∀ (p : Program) (e : Env) (s : State) (m : MethodId) (below : List Frame) (meth : Method) (c : Code) (ls : Array Slot), p.tables.exec = Jvm.exec → c.code = cc → meth.sig.returnType = ret → c.maxLocals = maxL → meth.locks = false → s.vm.findClass own = some m.cls → (∀ w ∈ ws, w.before av.toArray s = true) → nW s → va_P D vwCl W0 s.heap → va_K D vwCl ty s → va_D (va_A W0 s.heap.size) W0 → Pr s → lv_has ls maxL (lv_args 0 av) → W p l e rm s m av.toArray below meth c s.heap [] 0 0 (MQ below (Qq (va_A W0 s.heap.size)) av.toArray s 0 0 (va_A W0 s.heap.size)) (F0 m 0 ls [])) :
    Met l y ws rm (va_Pc av (fun U => mPw D ty W0 sz U ∧ Pr U)) (Qq (va_A W0 sz)) 0 0 (va_A W0 sz) := by
  refine Met.ofW (cc := cc) (maxL := maxL) (ret := ret) hy hw ?_
  intro p e s m args below meth c s₁ B hml hv
  obtain ⟨rfl, ⟨hsz, hP, hK, hD0, hN⟩, hPr⟩ := hv
  have hts := atoms_spec (ws := ws) B.pre
  have hown' : s.vm.findClass own = some m.cls := by rw [← hown]; exact findClass_of_methodNamed B.named
  subst hsz
  have hD := hD0.self (sz := s.heap.size)
  rw [lg_entry_eq]
  exact body p e s m below meth c _ B.exec B.bytes B.returns hml B.notSynchronized hown' hts hN hP hK hD hPr (lv_entry av hle)
abbrev rm_L_cell : Room := { frames := 0, cells := 0, slots := 0, locals := 0 }
theorem c_L_cell (l : Launch) (D : va_G) (ty : List (ClassId × FieldType)) (b L : Nat) (xs : Nat → Int32) (sz k : Nat) (hL : L < 2 ^ 31) (hk : k < 2 ^ 31) : Met l yL_cell wsL_cell rm_L_cell (va_Pc [.ref b, .int (nI k)] (fun U => mPw D ty [] sz U ∧ prX b L xs U)) (mQi D ty (cellv L xs k) (va_A [] sz) []) 0 0 (va_A [] sz) := by
  refine mEntP (cc := cL_cell) (maxL := 2) (ret := (some .int)) (own := RL) (Qq := fun A => mQi D ty (cellv L xs k) A []) (by decide) rfl rfl (Nat.le_of_ble_eq_true rfl) ?_
  intro p e s m below meth c ls hx hb hr hml hlocks hown hts hN hP hK hD hPr hl
  obtain ⟨hX, hbl⟩ := hPr
  have hl : lv_has ls 2 [(0, .ref b), (1, .int (nI k))] := hl
  have hS : va_S (va_A [] s.heap.size) s.heap s.heap [] := va_S.rf
  have hbA : ¬ va_A [] s.heap.size b := by
    rintro (⟨j, e, h⟩ | h)
    · simp at h
    · omega
  refine lv_iload_n hx hb dL_cell_0 rfl (lv_at hl 1 rfl) ?_
  refine lv_aload_n hx hb dL_cell_1 rfl (lv_at hl 0 rfl) ?_
  refine va_slen hx hb hX hbl hbA hS dL_cell_2 ?_
  refine lv_icmp_ge (tgt := 12) hx hb dL_cell_3 (by decide) (fun c1 => ?_) (fun c1 => ?_)
  · have h1 : L ≤ k := (nI_leI hL hk).mp c1
    refine lv_ldc (v := 2102375361) hx hb hown (hts (.constant RL 7 (2102375361)) (by decide +kernel)) dL_cell_12 ?_
    refine lv_iload_n hx hb dL_cell_14 rfl (lv_at hl 1 rfl) ?_
    refine lv_sipush (v := 1093) hx hb dL_cell_15 (by decide) ?_
    refine lv_iadd hx hb dL_cell_18 ?_
    refine lv_imul hx hb dL_cell_19 ?_
    refine lv_tope (y := cellv L xs k) (by unfold cellv; rw [if_neg (Nat.not_lt.mpr h1)]) ?_
    exact mIret hx hb hr hlocks hP hD hK hS dL_cell_20
  · have h1 : k < L := Nat.lt_of_not_le (fun q => c1 ((nI_leI hL hk).mpr q))
    refine lv_aload_n hx hb dL_cell_6 rfl (lv_at hl 0 rfl) ?_
    refine lv_iload_n hx hb dL_cell_7 rfl (lv_at hl 1 rfl) ?_
    refine va_sld hx hb hX hbl hbA hS (vp_in_nI h1 hL) dL_cell_8 ?_
    refine lv_tope (y := cellv L xs k) (by rw [nI_clamp hk]; unfold cellv; rw [if_pos h1]) ?_
    refine lv_goto (tgt := 20) hx hb dL_cell_9 (by decide) ?_
    exact mIret hx hb hr hlocks hP hD hK hS dL_cell_20
