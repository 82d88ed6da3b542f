/-! THE CLAIM OUT OF ONE WALK OF THE LAW'S BODY. Your part is whole_start (and what it stands on); all else here is the same for every law, but numbers. -/
def R_law : String := "SureMendingsLaw"
def lw_P (b : Addr) (xs : List Int32) (args : Array Value) (s : State) : Prop := args = #[.ref b] ∧ s.IntsAt b xs ∧ xs.length ≤ 260 ∧ (Jvm.Cond.and given_1 narrow_1).before args s = true
def lw_Q (_ : Array Value) (s : State) (o : Outcome) (t : State) : Prop := o = .returned (some (.int 1)) ∧ Framed s o t [] 600000 7302250
def lw_Z (below : List Frame) (a : Array Value) (s : State) : State → Prop := fun t => ∃ o, t.status = .running ∧ Ended t below o ∧ lw_Q a s o t
/-- the law's own end, with 1 on the stack, nothing written that was there before, its room as the claim has it -/
theorem lw_ret {p : Program} {l : Launch} {e : Env} {s : State} {m : MethodId} {below : List Frame} {meth : Method} {c : Code} {b : Nat} (hx : p.tables.exec = Jvm.exec) (hb : c.code = code) (hr : meth.sig.returnType = ret) (hlocks : meth.locks = false) {pc : Nat} {H : Heap} {ls : Array Slot} (hdg : decode code pc = .ok (.ireturn, 1)) : W p l e room_1 s m #[Value.ref b] below meth c H [] 600000 7302250 (lw_Z below #[Value.ref b] s) (F0 m pc ls [.int 1]) := by
  intro T hT X
  obtain ⟨fs, hret, hrun, hended, hW, hframe⟩ := X.leave (v := some (.int 1)) (hlocks := hlocks) (fun h => by rw [hr] at h; cases h)
  have hmeth' : T.vm.method? m = some meth := X.method'
  refine ⟨T.setFrames fs, ?_, .returned (some (.int 1)), hrun, hended, rfl, ⟨_, rfl⟩, hW, hframe⟩
  jvm_step X.here [X.here.top, hx, hb, hdg, hmeth', hr, ret, narrow_b1]
  (try refine ⟨rfl, ?_⟩); (try refine ⟨rfl, ?_⟩)
  first | (intro acts; rw [hret _ acts rfl rfl rfl]) | rw [hret _ _ rfl rfl rfl]
  exact Steps.refl _
/-- what holds at the law's entry: the machine, the code, the tables' words (any of lw_tbl by 'hts w (by decide +kernel)'), the script of L ints xs at the cell b, what the Statement gives of the start (any of its parts by flat_of_before) -/
def lw_At (p : Program) (s : State) (m : MethodId) (meth : Method) (c : Code) (b L : Nat) (xs : Nat → Int32) : Prop :=
  p.tables.exec = Jvm.exec ∧ c.code = code ∧ meth.sig.returnType = ret ∧ c.maxLocals = 5 ∧ s.vm.findClass R_law = some m.cls ∧ (∀ w ∈ lw_tbl, w.before #[Value.ref b] s = true) ∧ va_X b L xs s s.heap ∧ b < s.heap.size ∧ meth.locks = false ∧ (Jvm.Cond.and given_1 narrow_1).before #[Value.ref b] s = true
/-! the law's end -/
set_option maxHeartbeats 16000000 in
set_option maxRecDepth 100000 in
theorem law_end {p : Program} {l : Launch} {e : Env} {s : State} {m : MethodId} {below : List Frame} {meth : Method} {c : Code} {D : va_G} {cI cC cT : ClassId} {b L : Nat} {xs : Nat → Int32} (hL : L ≤ 260) (C0 : lw_At p s m meth c b L xs) (hN : nW s) (hK : va_K D vwCl (mTY cI cC cT) s) (a a' : Nat → Nat) {u v : SSt} {S : ST} {z : Nat} {Hs : Nat → ST} (hI : Two u v S z Hs) {H : Heap} {locs : List Loc} (hP : va_P D vwCl (List.flatten [(FS cI cC cT a u), (FS cI cC cT a' v)]) H) (hD : va_D (fun q : Nat => s.heap.size ≤ q) (List.flatten [(FS cI cC cT a u), (FS cI cC cT a' v)])) (hS : va_S (fun q : Nat => s.heap.size ≤ q) s.heap H locs) {ls : Array Slot} {k : Nat} (hl : lv_has ls 5 [(4, .int (nI k)), (3, .int 1), (2, .ref (a' 0)), (1, .ref (a 0)), (0, .ref b)]) : W p l e room_1 s m #[Value.ref b] below meth c H locs 200 3000 (lw_Z below #[Value.ref b] s) (F0 m 73 ls []) := by
  obtain ⟨hx, hb, hr, hml, hown, hts0, hX, hbl, hlocks, hgv⟩ := C0
  have hts : ∀ w ∈ wsL_law, w.before #[Value.ref b] s = true := fun w h => hts0 w (wsL_law_in w h)
  have hown : s.vm.findClass RL = some m.cls := hown
  have hA : ∀ q : Nat, s.heap.size ≤ q → (fun q : Nat => s.heap.size ≤ q) q := fun _ h => h
  have hbA : ¬ (fun q : Nat => s.heap.size ≤ q) b := Nat.not_le.mpr hbl
  refine lv_iload_n hx hb dL_law_73 rfl (lv_at hl 1 rfl) ?_
  refine lv_if_eq (tgt := 96) hx hb dL_law_74 (by decide) (fun c1 => absurd c1 (by decide)) (fun _ => ?_)
  refine lv_aload_n hx hb dL_law_77 rfl (lv_at hl 3 rfl) ?_
  obtain ⟨u1, q1, h1⟩ := p_well hI.1
  refine mGoiN (segs := [(FS cI cC cT a u), (FS cI cC cT a' v)]) (wcs := [(FS cI cC cT a u)]) (w1s := [(FS cI cC cT a u1)]) (w2s := [(FS cI cC cT a u1), (FS cI cC cT a' v)]) rfl rfl (va_runS (As := [.ref (a 0)]) (rest := []) ⟨hx, hb, hml, hown, hts⟩ (c_L_isWell l D cI cC cT a u H.size 1 u1 q1) (va_cwS 1 hts gL_law_L_isWell rfl rfl rfl (by decide +kernel) ⟨Nat.le_of_ble_eq_true rfl, Nat.le_of_ble_eq_true rfl⟩) (mPreSS [(FS cI cC cT a u)] rfl hP hD hK hN [0] rfl (by decide)) rfl rfl hl.1 rfl (lv_room (Nat.le_of_ble_eq_true rfl)) dL_law_78 ⟨by show _ ≤ 600000; omega, by show _ ≤ 7302250; omega⟩) hP hD hS hA [0] rfl rfl rfl rfl (fun H locs hP hD hS => ?_)
  refine lv_if_eq (tgt := 96) hx hb dL_law_81 (by decide) (fun c1 => absurd c1 (by decide)) (fun _ => ?_)
  refine lv_aload_n hx hb dL_law_84 rfl (lv_at hl 3 rfl) ?_
  refine lv_aload_n hx hb dL_law_85 rfl (lv_at hl 2 rfl) ?_
  obtain ⟨u2, v2, q2, h2⟩ := p_alike (u := u1) (v := v) ⟨h1, hI.2⟩
  refine mGoiS (segs := [(FS cI cC cT a u1), (FS cI cC cT a' v)]) (wcs := [(FS cI cC cT a u1), (FS cI cC cT a' v)]) (w1s := [(FS cI cC cT a u2), (FS cI cC cT a' v2)]) (w2s := [(FS cI cC cT a u2), (FS cI cC cT a' v2)]) rfl rfl (va_runS (As := [.ref (a 0), .ref (a' 0)]) (rest := []) ⟨hx, hb, hml, hown, hts⟩ (c_L_areAlike l D cI cC cT a a' u1 v H.size 1 u2 v2 q2) (va_cwS 2 hts gL_law_L_areAlike rfl rfl rfl (by decide +kernel) ⟨Nat.le_of_ble_eq_true rfl, Nat.le_of_ble_eq_true rfl⟩) (mPreSS [(FS cI cC cT a u1), (FS cI cC cT a' v)] rfl hP hD hK hN [0, 1] rfl (by decide)) rfl rfl hl.1 rfl (lv_room (Nat.le_of_ble_eq_true rfl)) dL_law_86 ⟨by show _ ≤ 600000; omega, by show _ ≤ 7302250; omega⟩) hP hD hS hA [0, 1] rfl rfl rfl rfl (fun H locs hP hD hS => ?_)
  refine lv_if_eq (tgt := 96) hx hb dL_law_89 (by decide) (fun c1 => absurd c1 (by decide)) (fun _ => ?_)
  refine lv_iconst (v := 1) hx hb dL_law_92 (by decide) ?_
  refine lv_goto (tgt := 97) hx hb dL_law_93 (by decide) ?_
  refine W.widen (k := 600000) (n := 7302250) (Nat.le_of_ble_eq_true rfl) (Nat.le_of_ble_eq_true rfl) ?_
  refine va_forget (fun q hq => hS.2.2 q hq) ?_
  exact lw_ret hx hb hr hlocks dL_law_97
/-! the law's loop -/
set_option maxHeartbeats 16000000 in
set_option maxRecDepth 100000 in
theorem law_loop {p : Program} {l : Launch} {e : Env} {s : State} {m : MethodId} {below : List Frame} {meth : Method} {c : Code} {D : va_G} {cI cC cT : ClassId} {b L : Nat} {xs : Nat → Int32} (hL : L ≤ 260) (C0 : lw_At p s m meth c b L xs) (hN : nW s) (hK : va_K D vwCl (mTY cI cC cT) s) (a a' : Nat → Nat) : ∀ (n k : Nat) (u v : SSt) (S : ST) (z : Nat) (Hs : Nat → ST), k ≤ 44 → 45 ≤ k + n → Two u v S z Hs → ∀ (H : Heap) (locs : List Loc), va_P D vwCl (List.flatten [(FS cI cC cT a u), (FS cI cC cT a' v)]) H → va_D (fun q : Nat => s.heap.size ≤ q) (List.flatten [(FS cI cC cT a u), (FS cI cC cT a' v)]) → va_S (fun q : Nat => s.heap.size ≤ q) s.heap H locs → ∀ (ls : Array Slot), lv_has ls 5 [(4, .int (nI k)), (3, .int 1), (2, .ref (a' 0)), (1, .ref (a 0)), (0, .ref b)] → W p l e room_1 s m #[Value.ref b] below meth c H locs (100 + k) (2000 + 20 * k) (lw_Z below #[Value.ref b] s) (F0 m 21 ls []) := by
  have C1 := C0
  obtain ⟨hx, hb, hr, hml, hown, hts0, hX, hbl, hlocks, hgv⟩ := C0
  have hts : ∀ w ∈ wsL_law, w.before #[Value.ref b] s = true := fun w h => hts0 w (wsL_law_in w h)
  have hown : s.vm.findClass RL = some m.cls := hown
  have hA : ∀ q : Nat, s.heap.size ≤ q → (fun q : Nat => s.heap.size ≤ q) q := fun _ h => h
  have hbA : ¬ (fun q : Nat => s.heap.size ≤ q) b := Nat.not_le.mpr hbl
  intro n
  induction n with
  | zero => intro k _ _ _ _ _ h1 h2; exact absurd h2 (by omega)
  | succ n ih =>
    intro k u v S z Hs hk hkn hI H locs hP hD hS ls hl
    refine lv_iload hx hb dL_law_21 (lv_at hl 0 rfl) ?_
    refine lv_bipush (v := 44) hx hb dL_law_23 (by decide) ?_
    refine lv_icmp_ge (tgt := 73) hx hb dL_law_25 (by decide) (fun c1 => ?_) (fun c1 => ?_)
    · refine W.widen (k := 200) (n := 3000) (by omega) (by omega) ?_
      exact law_end hL C1 hN hK a a' hI hP hD hS hl
    have hk2 : k < 44 := Nat.lt_of_not_le (fun q => c1 ((nI_leI (a := 44) (by omega) (by omega)).mpr q))
    have K1 : ∀ (u v : SSt) (S : ST) (z : Nat) (Hs : Nat → ST), Two u v S z Hs → ∀ (H : Heap) (locs : List Loc), va_P D vwCl (List.flatten [(FS cI cC cT a u), (FS cI cC cT a' v)]) H → va_D (fun q : Nat => s.heap.size ≤ q) (List.flatten [(FS cI cC cT a u), (FS cI cC cT a' v)]) → va_S (fun q : Nat => s.heap.size ≤ q) s.heap H locs → ∀ (ls : Array Slot), lv_has ls 5 [(4, .int (nI k)), (3, .int 1), (2, .ref (a' 0)), (1, .ref (a 0)), (0, .ref b)] → W p l e room_1 s m #[Value.ref b] below meth c H locs (100 + k + 1) (2000 + 20 * k + 20) (lw_Z below #[Value.ref b] s) (F0 m 61 ls []) := by
      intro u v S z Hs hI H locs hP hD hS ls hl
      refine lv_iconst (v := 1) hx hb dL_law_61 (by decide) ?_
      refine lv_goto (tgt := 66) hx hb dL_law_62 (by decide) ?_
      refine lv_istore_n (lv' := [(3, .int 1), (4, .int (nI k)), (2, .ref (a' 0)), (1, .ref (a 0)), (0, .ref b)]) hx hb dL_law_66 rfl hl (by decide) rfl (fun ls hl => ?_)
      refine lv_iinc (v := nI (k + 1)) (lv' := [(4, .int (nI (k + 1))), (3, .int 1), (2, .ref (a' 0)), (1, .ref (a 0)), (0, .ref b)]) hx hb dL_law_67 hl (k := 1) rfl (nI_1 k) (by decide) rfl (fun ls hl => ?_)
      refine lv_goto (tgt := 21) hx hb dL_law_70 (by decide) ?_
      refine W.widen (k := 100 + (k + 1)) (n := 2000 + 20 * (k + 1)) (by omega) (by omega) ?_
      exact ih (k + 1) u v S z Hs (by omega) (by omega) hI _ _ hP hD hS _ hl
    refine lv_iload_n hx hb dL_law_28 rfl (lv_at hl 1 rfl) ?_
    refine lv_if_eq (tgt := 73) hx hb dL_law_29 (by decide) (fun c2 => absurd c2 (by decide)) (fun _ => ?_)
    refine lv_aload_n hx hb dL_law_32 rfl (lv_at hl 3 rfl) ?_
    refine lv_aload_n hx hb dL_law_33 rfl (lv_at hl 2 rfl) ?_
    refine lv_aload_n hx hb dL_law_34 rfl (lv_at hl 4 rfl) ?_
    refine lv_iload hx hb dL_law_35 (lv_at hl 0 rfl) ?_
    have hXH : va_X b L xs s H := hX.kept (hS.2.1 b hbl hbA)
    have hbH : b < H.size := Nat.lt_of_lt_of_le hbl hS.1
    refine mGoiS (segs := [(FS cI cC cT a u), (FS cI cC cT a' v)]) (wcs := []) (w1s := []) (w2s := [(FS cI cC cT a u), (FS cI cC cT a' v)]) rfl rfl (va_runS (As := [.ref b, .int (nI k)]) (rest := [.ref (a' 0), .ref (a 0)]) ⟨hx, hb, hml, hown, hts⟩ (c_L_cell l D (mTY cI cC cT) b L xs H.size k (by omega) (by omega)) (va_cwS 2 hts gL_law_L_cell rfl rfl rfl (by decide +kernel) ⟨Nat.le_of_ble_eq_true rfl, Nat.le_of_ble_eq_true rfl⟩) (mPreX0 hK hN hXH hbH) rfl rfl hl.1 rfl (lv_room (Nat.le_of_ble_eq_true rfl)) dL_law_37 ⟨by show _ ≤ 600000; omega, by show _ ≤ 7302250; omega⟩) hP hD hS hA [] rfl rfl rfl rfl (fun H locs hP hD hS => ?_)
    obtain ⟨u1, v1, S1, z1, Hs1, q1, hI1⟩ := p_step hI (cellv L xs k)
    refine mGoiS (segs := [(FS cI cC cT a u), (FS cI cC cT a' v)]) (wcs := [(FS cI cC cT a u), (FS cI cC cT a' v)]) (w1s := [(FS cI cC cT a u1), (FS cI cC cT a' v1)]) (w2s := [(FS cI cC cT a u1), (FS cI cC cT a' v1)]) rfl rfl (va_runS (As := [.ref (a 0), .ref (a' 0), .int (cellv L xs k)]) (rest := []) ⟨hx, hb, hml, hown, hts⟩ (c_L_isStep l D cI cC cT a a' u v H.size (cellv L xs k) 1 u1 v1 q1) (va_cwS 3 hts gL_law_L_isStep rfl rfl rfl (by decide +kernel) ⟨Nat.le_of_ble_eq_true rfl, Nat.le_of_ble_eq_true rfl⟩) (mPreSS [(FS cI cC cT a u), (FS cI cC cT a' v)] rfl hP hD hK hN [0, 1] rfl (by decide)) rfl rfl hl.1 rfl (lv_room (Nat.le_of_ble_eq_true rfl)) dL_law_40 ⟨by show _ ≤ 600000; omega, by show _ ≤ 7302250; omega⟩) hP hD hS hA [0, 1] rfl rfl rfl rfl (fun H locs hP hD hS => ?_)
    refine lv_if_eq (tgt := 65) hx hb dL_law_43 (by decide) (fun c2 => absurd c2 (by decide)) (fun _ => ?_)
    refine lv_iload hx hb dL_law_46 (lv_at hl 0 rfl) ?_
    refine lv_bipush (v := 11) hx hb dL_law_48 (by decide) ?_
    refine lv_irem hx hb dL_law_50 (by decide) ?_
    refine lv_if_gt (tgt := 61) hx hb dL_law_51 (by decide) (fun c2 => ?_) (fun c2 => ?_)
    · refine W.widen (k := 100 + k + 1) (n := 2000 + 20 * k + 20) (by omega) (by omega) ?_
      exact K1 u1 v1 S1 z1 Hs1 hI1 _ _ hP hD hS _ hl
    refine lv_aload_n hx hb dL_law_54 rfl (lv_at hl 3 rfl) ?_
    obtain ⟨u2, q2, h2⟩ := p_well hI1.1
    refine mGoiN (segs := [(FS cI cC cT a u1), (FS cI cC cT a' v1)]) (wcs := [(FS cI cC cT a u1)]) (w1s := [(FS cI cC cT a u2)]) (w2s := [(FS cI cC cT a u2), (FS cI cC cT a' v1)]) rfl rfl (va_runS (As := [.ref (a 0)]) (rest := []) ⟨hx, hb, hml, hown, hts⟩ (c_L_isWell l D cI cC cT a u1 H.size 1 u2 q2) (va_cwS 1 hts gL_law_L_isWell rfl rfl rfl (by decide +kernel) ⟨Nat.le_of_ble_eq_true rfl, Nat.le_of_ble_eq_true rfl⟩) (mPreSS [(FS cI cC cT a u1)] rfl hP hD hK hN [0] rfl (by decide)) rfl rfl hl.1 rfl (lv_room (Nat.le_of_ble_eq_true rfl)) dL_law_55 ⟨by show _ ≤ 600000; omega, by show _ ≤ 7302250; omega⟩) hP hD hS hA [0] rfl rfl rfl rfl (fun H locs hP hD hS => ?_)
    refine lv_if_eq (tgt := 65) hx hb dL_law_58 (by decide) (fun c2 => absurd c2 (by decide)) (fun _ => ?_)
    exact K1 u2 v1 S1 z1 Hs1 ⟨h2, hI1.2⟩ _ _ hP hD hS _ hl
