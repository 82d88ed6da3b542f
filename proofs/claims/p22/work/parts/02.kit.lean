/-! my own rows over the kit: contracts of one form (heap picture in, heap picture out), entry, calls, returns -/
def nbW : List (String × Nat × MethodName × String) := [
  ("SureMendings", 9, yX3_init, "SureMendings"), ("SureMendings$History", 17, yX3_init, "SureMendings"), ("SureMendings", 41, yX4_init, "SureMendings"),
  ("SureMendings$Reader", 11, yX3_init, "SureMendings"), ("SureMendings$Table", 36, yX5_copy, "SureMendings"), ("SureMendings$Table", 44, yX5_put, "SureMendings"),
  ("SureMendings$Table", 28, yX5_at, "SureMendings"), ("SureMendings$Choices", 66, yX5_at, "SureMendings"), ("SureMendings$Choices", 56, yX5_put, "SureMendings"),
  ("SureMendings$Choices", 76, yX5_isKey, "SureMendings")]
def nW (U : State) : Prop := ∀ q ∈ nbW, va_Nw (.methodLinkNest q.1 q.2.1 q.2.2.1 q.2.2.2) U
theorem nW_warm {s U : State} (hW : s.WarmedH U.vm) (h : nW s) : nW U := fun q hq => va_Nw.warmM hW (h q hq)
theorem nW_same {u U : State} (hv : u.vm = U.vm) (h : nW u) : nW U := fun q hq => va_Nw.same rfl hv (h q hq)
theorem nW_at {U : State} (h : nW U) (i : Nat) {q : String × Nat × MethodName × String} (hi : nbW[i]? = some q) : va_Nw (.methodLinkNest q.1 q.2.1 q.2.2.1 q.2.2.2) U := h q (List.mem_of_getElem? hi)
abbrev mTY (cI cC cT : ClassId) : List (ClassId × FieldType) := [(cI, .int), (cC, .char), (cT, .object "SureMendings$Table")]
def mPw (D : va_G) (ty : List (ClassId × FieldType)) (W : va_W) (sz : Nat) (U : State) : Prop := U.heap.size = sz ∧ va_P D vwCl W U.heap ∧ va_K D vwCl ty U ∧ va_D (fun _ => True) W ∧ nW U
abbrev mP (D : va_G) (ty : List (ClassId × FieldType)) (av : List Value) (W : va_W) (sz : Nat) : Array Value → State → Prop := va_Pc av (mPw D ty W sz)
def mBw (D : va_G) (ty : List (ClassId × FieldType)) (A : Nat → Prop) (W : va_W) (t : State) : Prop := va_P D vwCl W t.heap ∧ va_K D vwCl ty t ∧ va_D A W
abbrev mQi (D : va_G) (ty : List (ClassId × FieldType)) (F : Int32) (A : Nat → Prop) (W : va_W) : Array Value → State → Outcome → State → Prop := va_Qi (fun (r : Int32) (_ : Unit) => r = F) (fun _ => mBw D ty A W) A
abbrev mQv (D : va_G) (ty : List (ClassId × FieldType)) (A : Nat → Prop) (W : va_W) : Array Value → State → Outcome → State → Prop := va_Qv (fun (_ : Unit) => True) (fun _ => mBw D ty A W) A
abbrev mQr (D : va_G) (ty : List (ClassId × FieldType)) (F : Nat) (A : Nat → Prop) (W : va_W) : Array Value → State → Outcome → State → Prop := va_Qr (fun (_ : Unit) => True) (fun _ a t => a = F ∧ mBw D ty A W t) A
theorem mP_blind {D : va_G} {ty : List (ClassId × FieldType)} {av : List Value} {W : va_W} {sz : Nat} : FrameBlind (mP D ty av W sz) := by
  intro a U g mk h
  obtain ⟨h1, h2, h3, h4, h5, h6⟩ := h
  exact ⟨h1, h2, h3, va_K.moved (u := U) (U := U.calling g mk a) (Vm.Alike.refl U.vm) h4, h5, nW_same (u := U) (U := U.calling g mk a) rfl h6⟩
theorem mCut {D : va_G} {ws wc : va_W} {H : Heap} (hP : va_P D vwCl ws H) (isC : List Nat) (hC : isC.map (fun i => ws[i]?) = wc.map some) : va_P D vwCl wc H := by
  intro k q hk
  have h1 : (isC.map (fun i => ws[i]?))[k]? = some (some q) := by rw [hC, List.getElem?_map, hk]; rfl
  rw [List.getElem?_map] at h1
  cases hi : isC[k]? with
  | none => rw [hi] at h1; cases h1
  | some i =>
    rw [hi] at h1
    exact hP i q (Option.some.inj h1)
theorem mPreV {D : va_G} {ty : List (ClassId × FieldType)} {s : State} {H : Heap} {A : Nat → Prop} {ws wc : va_W} {C : String} {b : Addr} {As : List Value} (hP : va_P D vwCl ws H) (hD : va_D A ws) (hK : va_K D vwCl ty s) (hN : nW s) (isC : List Nat) (hC : isC.map (fun i => ws[i]?) = wc.map some) (hn : va_nd isC = true)
    (hr : ∃ cell : Cell, H[b]? = some cell ∧ cell.vm.isStatics = false ∧ s.vm.findClass C = some cell.cls) : PreV s H C b (mP D ty (.ref b :: As) wc H.size) As :=
  ⟨mP_blind, hr, fun U hU hW => ⟨rfl, by rw [hU], by rw [hU]; exact mCut hP isC hC, va_K.moved hW.alike hK, (hD.sub isC hn hC).weaken (fun _ _ _ _ => trivial), nW_warm hW hN⟩⟩
theorem mPreS {D : va_G} {ty : List (ClassId × FieldType)} {s : State} {H : Heap} {A : Nat → Prop} {ws wc : va_W} {As : List Value} (hP : va_P D vwCl ws H) (hD : va_D A ws) (hK : va_K D vwCl ty s) (hN : nW s) (isC : List Nat) (hC : isC.map (fun i => ws[i]?) = wc.map some) (hn : va_nd isC = true) : PreS s H (mP D ty As wc H.size) As :=
  ⟨mP_blind, fun U hU hW => ⟨rfl, by rw [hU], by rw [hU]; exact mCut hP isC hC, va_K.moved hW.alike hK, (hD.sub isC hn hC).weaken (fun _ _ _ _ => trivial), nW_warm hW hN⟩⟩
def mset : va_W → List Nat → va_W → va_W
  | ws, i :: is, c :: cs => mset (ws.set i c) is cs
  | ws, _, _ => ws
theorem mset_get : ∀ (is : List Nat) (cs ws : va_W) (k : Nat) (q : Nat × va_E), (mset ws is cs)[k]? = some q → is.length = cs.length → (∃ j : Nat, cs[j]? = some q ∧ is[j]? = some k) ∨ (ws[k]? = some q ∧ k ∉ is) := by
  intro is
  induction is with
  | nil =>
    intro cs ws k q h _
    refine Or.inr ⟨?_, List.not_mem_nil⟩
    cases cs <;> exact h
  | cons i is ih =>
    intro cs ws k q h hl
    cases cs with
    | nil => cases hl
    | cons c cs =>
      rcases ih cs (ws.set i c) k q h (Nat.succ.inj hl) with ⟨j, h1, h2⟩ | ⟨h1, h2⟩
      · exact Or.inl ⟨j + 1, h1, h2⟩
      · rw [List.getElem?_set] at h1
        by_cases e : i = k
        · subst e
          rw [if_pos rfl] at h1
          split at h1
          · exact Or.inl ⟨0, h1, rfl⟩
          · cases h1
        · rw [if_neg e] at h1
          refine Or.inr ⟨h1, fun hm => ?_⟩
          rcases List.mem_cons.mp hm with q | q
          · exact e q.symm
          · exact h2 q
theorem mAddr {w2 ws : va_W} (ha : w2.map (fun q => q.1) = ws.map (fun q => q.1)) {i : Nat} {p : Nat × va_E} (h : w2[i]? = some p) : ∃ p', ws[i]? = some p' ∧ p'.1 = p.1 := by
  have h1 : (w2.map (fun q => q.1))[i]? = some p.1 := by rw [List.getElem?_map, h]; rfl
  rw [ha, List.getElem?_map] at h1
  cases hw : ws[i]? with
  | none => rw [hw] at h1; cases h1
  | some p' => rw [hw] at h1; exact ⟨p', rfl, Option.some.inj h1⟩
theorem mJoin {A0 : Nat → Prop} {D : va_G} {ws wc w1 w2 : va_W} {H H1 : Heap} (hP : va_P D vwCl ws H) (hD : va_D A0 ws) (isC : List Nat) (hC : isC.map (fun i => ws[i]?) = wc.map some)
    (hk : ∀ q : Nat, q < H.size → ¬ va_A wc H.size q → H1[q]? = H[q]?) (hP1 : va_P D vwCl w1 H1) (hl : isC.length = w1.length) (hw : mset ws isC w1 = w2) (ha : w2.map (fun q => q.1) = ws.map (fun q => q.1)) : va_P D vwCl w2 H1 ∧ va_D A0 w2 := by
  refine ⟨fun k q hq => ?_, fun i j p q hi hj e => ?_, fun k q hq => ?_⟩
  · rw [← hw] at hq
    rcases mset_get isC w1 ws k q hq hl with ⟨j, h1, _⟩ | ⟨h1, h2⟩
    · exact hP1 j q h1
    · refine (hP k q h1).kept (hk q.1 (hP k q h1).lt ?_)
      rintro (⟨k', e, h3⟩ | h3)
      · have h4 : (isC.map (fun i => ws[i]?))[k']? = some (some (q.1, e)) := by rw [hC, List.getElem?_map, h3]; rfl
        rw [List.getElem?_map] at h4
        cases hi : isC[k']? with
        | none => rw [hi] at h4; cases h4
        | some i =>
          rw [hi] at h4
          have h5 := hD.1 i k _ q (Option.some.inj h4) h1 rfl
          subst h5
          exact h2 (List.mem_of_getElem? hi)
      · have := (hP k q h1).lt
        omega
  · obtain ⟨p', h1, h2⟩ := mAddr ha hi
    obtain ⟨q', h3, h4⟩ := mAddr ha hj
    exact hD.1 i j p' q' h1 h3 (by rw [h2, h4, e])
  · obtain ⟨q', h1, h2⟩ := mAddr ha hq
    rw [← h2]
    exact hD.2 k q' h1
section MK
variable {p : Program} {l : Launch} {e : Env} {R : Room} {s : State} {m : MethodId} {args : Array Value} {below : List Frame} {meth : Method} {c : Code} {H : Heap} {locs : List Loc} {cells slots : Nat} {Q : State → Prop} {cc : ByteArray} {pc : Nat} {ls : Array Slot} {rest st0 : List Value} {D : va_G} {ty : List (ClassId × FieldType)} {A : Nat → Prop} {H0 : Heap} {ws wc w1 w2 : va_W} {a : Array Value}
theorem lv_tope {x y : Int32} (h : x = y) (k : W p l e R s m args below meth c H locs cells slots Q (F0 m pc ls (.int y :: rest))) : W p l e R s m args below meth c H locs cells slots Q (F0 m pc ls (.int x :: rest)) := by
  subst h
  exact k
theorem mGoi {F : Int32} (hr : va_Run p l e R s m args below meth c H locs cells slots 0 0 (F0 m pc ls st0) rest (mQi D ty F (va_A wc H.size) w1 a) (va_A wc H.size))
    (hP : va_P D vwCl ws H) (hD : va_D A ws) (hS : va_S A H0 H locs) (hA : ∀ q, H0.size ≤ q → A q) (isC : List Nat) (hC : isC.map (fun i => ws[i]?) = wc.map some) (hl : isC.length = w1.length) (hw2 : mset ws isC w1 = w2) (ha : w2.map (fun q => q.1) = ws.map (fun q => q.1))
    (kk : ∀ (H1 : Heap) (locs1 : List Loc), va_P D vwCl w2 H1 → va_D A w2 → va_S A H0 H1 locs1 → W p l e R s m args below meth c H1 locs1 cells slots Q (F0 m (pc + 3) ls (.int F :: rest))) : W p l e R s m args below meth c H locs cells slots Q (F0 m pc ls st0) := by
  have hF := va_free (wc := wc) hD hS hA isC hC
  refine va_calli hr hS (fun q _ h => hF q h) hF (fun r u t H1 locs1 ht hvm hw hB hz1 hk1 hS1 => ?_)
  obtain ⟨hP1, hK1, hD1⟩ := hB
  rw [ht] at hP1
  obtain ⟨hP2, hD2⟩ := mJoin hP hD isC hC hk1 hP1 hl hw2 ha
  rw [hw]
  exact kk H1 locs1 hP2 hD2 hS1
theorem mGov (hr : va_Run p l e R s m args below meth c H locs cells slots 0 0 (F0 m pc ls st0) rest (mQv D ty (va_A wc H.size) w1 a) (va_A wc H.size))
    (hP : va_P D vwCl ws H) (hD : va_D A ws) (hS : va_S A H0 H locs) (hA : ∀ q, H0.size ≤ q → A q) (isC : List Nat) (hC : isC.map (fun i => ws[i]?) = wc.map some) (hl : isC.length = w1.length) (hw2 : mset ws isC w1 = w2) (ha : w2.map (fun q => q.1) = ws.map (fun q => q.1))
    (kk : ∀ (H1 : Heap) (locs1 : List Loc), va_P D vwCl w2 H1 → va_D A w2 → va_S A H0 H1 locs1 → W p l e R s m args below meth c H1 locs1 cells slots Q (F0 m (pc + 3) ls rest)) : W p l e R s m args below meth c H locs cells slots Q (F0 m pc ls st0) := by
  have hF := va_free (wc := wc) hD hS hA isC hC
  refine va_callv hr hS (fun q _ h => hF q h) hF (fun u t H1 locs1 ht hvm hw hB hz1 hk1 hS1 => ?_)
  obtain ⟨hP1, hK1, hD1⟩ := hB
  rw [ht] at hP1
  obtain ⟨hP2, hD2⟩ := mJoin hP hD isC hC hk1 hP1 hl hw2 ha
  exact kk H1 locs1 hP2 hD2 hS1
theorem mGor {F : Nat} (hr : va_Run p l e R s m args below meth c H locs cells slots 0 0 (F0 m pc ls st0) rest (mQr D ty F (va_A wc H.size) w1 a) (va_A wc H.size))
    (hP : va_P D vwCl ws H) (hD : va_D A ws) (hS : va_S A H0 H locs) (hA : ∀ q, H0.size ≤ q → A q) (isC : List Nat) (hC : isC.map (fun i => ws[i]?) = wc.map some) (hl : isC.length = w1.length) (hw2 : mset ws isC w1 = w2) (ha : w2.map (fun q => q.1) = ws.map (fun q => q.1))
    (kk : ∀ (H1 : Heap) (locs1 : List Loc), va_P D vwCl w2 H1 → va_D A w2 → va_S A H0 H1 locs1 → W p l e R s m args below meth c H1 locs1 cells slots Q (F0 m (pc + 3) ls (.ref F :: rest))) : W p l e R s m args below meth c H locs cells slots Q (F0 m pc ls st0) := by
  have hF := va_free (wc := wc) hD hS hA isC hC
  refine va_callr hr hS (fun q _ h => hF q h) hF (fun u ra t H1 locs1 ht hvm hw hB hz1 hk1 hS1 => ?_)
  obtain ⟨hra, hP1, hK1, hD1⟩ := hB
  rw [ht] at hP1
  obtain ⟨hP2, hD2⟩ := mJoin hP hD isC hC hk1 hP1 hl hw2 ha
  rw [hra]
  exact kk H1 locs1 hP2 hD2 hS1
theorem mIret {v : Int32} {W' : va_W} (hx : p.tables.exec = Jvm.exec) (hb : c.code = cc) (hr : meth.sig.returnType = some .int) (hlocks : meth.locks = false) (hP : va_P D vwCl W' H) (hD : va_D A W') (hK : va_K D vwCl ty s) (hS : va_S A s.heap H locs) (hdg : decode cc pc = .ok (.ireturn, 1)) : W p l e R s m args below meth c H locs cells slots (MQ below (mQi D ty v A W') args s cells slots A) (F0 m pc ls [.int v]) :=
  W.iret (v := v) hx hb hr (fun t ht hW => ⟨⟨v, (), rfl, rfl, by rw [ht]; exact hP, va_K.moved hW.alike hK, hD⟩, hS.F ht⟩) hS.2.2 hdg hlocks
theorem mZret {v : Int32} {W' : va_W} {rt : FieldType} (hx : p.tables.exec = Jvm.exec) (hb : c.code = cc) (hr : meth.sig.returnType = some rt) (hn : narrow rt (.int v) = .int v) (hlocks : meth.locks = false) (hP : va_P D vwCl W' H) (hD : va_D A W') (hK : va_K D vwCl ty s) (hS : va_S A s.heap H locs) (hdg : decode cc pc = .ok (.ireturn, 1)) : W p l e R s m args below meth c H locs cells slots (MQ below (mQi D ty v A W') args s cells slots A) (F0 m pc ls [.int v]) :=
  W.zret (v := v) hx hb hr hn (fun t ht hW => ⟨⟨v, (), rfl, rfl, by rw [ht]; exact hP, va_K.moved hW.alike hK, hD⟩, hS.F ht⟩) hS.2.2 hdg hlocks
theorem mVret {W' : va_W} (hx : p.tables.exec = Jvm.exec) (hb : c.code = cc) (hr : meth.sig.returnType = none) (hlocks : meth.locks = false) (hP : va_P D vwCl W' H) (hD : va_D A W') (hK : va_K D vwCl ty s) (hS : va_S A s.heap H locs) (hdg : decode cc pc = .ok (.return_, 1)) : W p l e R s m args below meth c H locs cells slots (MQ below (mQv D ty A W') args s cells slots A) (F0 m pc ls []) :=
  W.vret hx hb hr (fun t ht hW => ⟨⟨(), rfl, trivial, by rw [ht]; exact hP, va_K.moved hW.alike hK, hD⟩, hS.F ht⟩) hS.2.2 hdg hlocks
theorem mAret {v : Nat} {W' : va_W} {C : String} (hx : p.tables.exec = Jvm.exec) (hb : c.code = cc) (hr : meth.sig.returnType = some (.object C)) (hlocks : meth.locks = false) (hP : va_P D vwCl W' H) (hD : va_D A W') (hK : va_K D vwCl ty s) (hS : va_S A s.heap H locs) (hdg : decode cc pc = .ok (.areturn, 1)) : W p l e R s m args below meth c H locs cells slots (MQ below (mQr D ty v A W') args s cells slots A) (F0 m pc ls [.ref v]) :=
  W.aret (v := .ref v) hx hb hr (Or.inl ⟨C, rfl⟩) (Or.inr ⟨v, rfl⟩) (fun t ht hW => ⟨⟨(), v, rfl, trivial, rfl, by rw [ht]; exact hP, va_K.moved hW.alike hK, hD⟩, hS.F ht⟩) hS.2.2 hdg hlocks
end MK
theorem mEnt {l : Launch} {y : MethodName} {ws ws' : List Cond} {rm : Room} {cc : ByteArray} {maxL : Nat} {ret : Option FieldType} {D : va_G} {ty : List (ClassId × FieldType)} {av : List Value} {W0 : va_W} {sz : Nat} {own : String} {Qq : (Nat → Prop) → Array Value → State → Outcome → State → Prop}
    (hy : plainName y.cls = true) (hw : ws = Cond.code y cc maxL ret :: ws') (hown : y.cls = own) (hle : (lg_sl av).length ≤ maxL)
    (body : ∀ (p : Program) (e : Env) (s : State) (m : MethodId) (below : List Frame) (meth : Method) (c : Code) (A : Nat → Prop) (ls : Array Slot) (H : Heap) (locs : List Loc), p.tables.exec = Jvm.exec → c.code = cc → meth.sig.returnType = ret → c.maxLocals = maxL → meth.locks = false → s.vm.findClass own = some m.cls → (∀ w ∈ ws, w.before av.toArray s = true) → nW s → (∀ q : Nat, s.heap.size ≤ q → A q) → va_P D vwCl W0 H → va_K D vwCl ty s → va_D A W0 → va_S A s.heap H locs → lv_has ls maxL (lv_args 0 av) → W p l e rm s m av.toArray below meth c H locs 0 0 (MQ below (Qq A) av.toArray s 0 0 A) (F0 m 0 ls [])) :
    Met l y ws rm (mP D ty av W0 sz) (Qq (va_A W0 sz)) 0 0 (va_A W0 sz) := by
  refine Met.ofW (cc := cc) (maxL := maxL) (ret := ret) hy hw ?_
  intro p e s m args below meth c s₁ B hml hv
  obtain ⟨rfl, hsz, hP, hK, hD0, hN⟩ := hv
  have hts := atoms_spec (ws := ws) B.pre
  have hown' : s.vm.findClass own = some m.cls := by rw [← hown]; exact findClass_of_methodNamed B.named
  subst hsz
  have hD := hD0.self (sz := s.heap.size)
  rw [lg_entry_eq]
  exact body p e s m below meth c _ _ _ _ B.exec B.bytes B.returns hml B.notSynchronized hown' hts hN (fun q h => Or.inr h) hP hK hD va_S.rf (lv_entry av hle)
/-! pure side: loops and options -/
def fuel : Nat := 4294967296
def iter {σ ρ : Type} : Nat → (σ → Option (σ ⊕ ρ)) → σ → Option ρ
  | 0, _, _ => none
  | n + 1, b, s => match b s with
    | none => none
    | some (.inl t) => iter n b t
    | some (.inr r) => some r
theorem iter_zero {σ ρ : Type} {b : σ → Option (σ ⊕ ρ)} {s : σ} {r : ρ} (h : iter 0 b s = some r) : False := by simp [iter] at h
theorem iter_succ {σ ρ : Type} {n : Nat} {b : σ → Option (σ ⊕ ρ)} {s : σ} {r : ρ} (h : iter (n + 1) b s = some r) : ∃ o, b s = some o ∧ (∀ t, o = .inl t → iter n b t = some r) ∧ (∀ q, o = .inr q → q = r) := by
  unfold iter at h
  cases hb : b s with
  | none => rw [hb] at h; cases h
  | some o =>
    rw [hb] at h
    cases o with
    | inl t => exact ⟨_, rfl, fun t' ht => (by cases ht; exact h), fun q hq => (by cases hq)⟩
    | inr q => exact ⟨_, rfl, fun t' ht => (by cases ht), fun q' hq => (by cases hq; exact Option.some.inj h)⟩
theorem bnd {α β : Type} {x : Option α} {k : α → Option β} {o : β} (h : x.bind k = some o) : ∃ r, x = some r ∧ k r = some o := by
  cases x with
  | none => cases h
  | some r => exact ⟨r, rfl, h⟩
theorem ite_t {α : Type} {P : Prop} [inst : Decidable P] {a b : Option α} {o : α} (h : (if P then a else b) = some o) (hc : P) : a = some o := by rw [if_pos hc] at h; exact h
theorem ite_f {α : Type} {P : Prop} [inst : Decidable P] {a b : Option α} {o : α} (h : (if P then a else b) = some o) (hc : ¬ P) : b = some o := by rw [if_neg hc] at h; exact h
theorem grd {α : Type} {P : Prop} [inst : Decidable P] {a : Option α} {o : α} (h : (if P then a else none) = some o) : P ∧ a = some o := by
  by_cases hc : P
  · rw [if_pos hc] at h; exact ⟨hc, h⟩
  · rw [if_neg hc] at h; cases h
abbrev isB (v : Int32) : Prop := v = 0 ∨ v = 1
theorem isB_narrow {v : Int32} (h : isB v) : narrow .boolean (.int v) = .int v := by rcases h with rfl | rfl <;> rfl
theorem isB_fits {v : Int32} (h : isB v) : fits .boolean (.int v) = true := by rcases h with rfl | rfl <;> rfl
theorem tsw_out {x : Int32} (n : Nat) (hn : n < 1000) (h : ∀ j : Nat, j ≤ n → ¬ x = Int32.ofNat j) : x.toInt < 0 ∨ (n : Int) < x.toInt := by
  rcases Int.lt_or_le x.toInt 0 with h0 | h0
  · exact Or.inl h0
  · refine Or.inr (Int.lt_of_not_ge fun h1 => ?_)
    have hj : x.toInt.toNat ≤ n := by omega
    refine h _ hj (Int32.toInt_inj.mp ?_)
    rw [Int32.toInt_ofNat_of_lt (by omega)]
    omega
