/-! worlds in segments: a list of small worlds, joined; a call takes some of them and gives them back -/
def adr (w : va_W) : List Nat := w.map (fun q => q.1)
theorem P_mem {D : va_G} {ws : va_W} {H : Heap} : va_P D vwCl ws H ↔ ∀ q ∈ ws, va_at D vwCl q H := by
  constructor
  · intro h q hq
    obtain ⟨k, hk⟩ := List.mem_iff_getElem?.mp hq
    exact h k q hk
  · intro h k q hk
    exact h q (List.mem_of_getElem? hk)
theorem D_iff {A : Nat → Prop} {ws : va_W} : va_D A ws ↔ (ws.Pairwise (fun p q => p.1 ≠ q.1)) ∧ ∀ q ∈ ws, A q.1 := by
  constructor
  · rintro ⟨h1, h2⟩
    refine ⟨List.pairwise_iff_getElem.mpr (fun i j hi hj hij e => ?_), fun q hq => ?_⟩
    · have := h1 i j _ _ (List.getElem?_eq_getElem hi) (List.getElem?_eq_getElem hj) e
      omega
    · obtain ⟨k, hk⟩ := List.mem_iff_getElem?.mp hq
      exact h2 k q hk
  · rintro ⟨h1, h2⟩
    have h3 := List.pairwise_iff_getElem.mp h1
    refine ⟨fun i j p q hi hj e => ?_, fun k q hk => h2 q (List.mem_of_getElem? hk)⟩
    obtain ⟨hi1, hi2⟩ := List.getElem?_eq_some_iff.mp hi
    obtain ⟨hj1, hj2⟩ := List.getElem?_eq_some_iff.mp hj
    rcases Nat.lt_trichotomy i j with q1 | q1 | q1
    · exact absurd (by rw [hi2, hj2]; exact e) (h3 i j hi1 hj1 q1)
    · exact q1
    · exact absurd (by rw [hi2, hj2]; exact e.symm) (h3 j i hj1 hi1 q1)
/-- elements of two different segments have different addresses -/
theorem seg_ne {A : Nat → Prop} {segs : List va_W} (hD : va_D A segs.flatten) {i k : Nat} {u v : va_W} (hi : segs[i]? = some u) (hk : segs[k]? = some v) (hn : i ≠ k) {p q : Nat × va_E} (hp : p ∈ u) (hq : q ∈ v) : p.1 ≠ q.1 := by
  have h1 := (List.pairwise_flatten.mp (D_iff.mp hD).1).2
  have h2 := List.pairwise_iff_getElem.mp h1
  obtain ⟨hi1, hi2⟩ := List.getElem?_eq_some_iff.mp hi
  obtain ⟨hk1, hk2⟩ := List.getElem?_eq_some_iff.mp hk
  rcases Nat.lt_or_ge i k with z | z
  · exact h2 i k hi1 hk1 z p (by rw [hi2]; exact hp) q (by rw [hk2]; exact hq)
  · exact fun e => h2 k i hk1 hi1 (by omega) q (by rw [hk2]; exact hq) p (by rw [hi2]; exact hp) e.symm
theorem seg_mem {segs wcs : List va_W} {isC : List Nat} (hC : isC.map (fun i => segs[i]?) = wcs.map some) {j : Nat} {w : va_W} (hj : wcs[j]? = some w) : ∃ i, isC[j]? = some i ∧ segs[i]? = some w := by
  have h1 : (isC.map (fun i => segs[i]?))[j]? = some (some w) := by rw [hC, List.getElem?_map, hj]; rfl
  rw [List.getElem?_map] at h1
  cases hi : isC[j]? with
  | none => rw [hi] at h1; cases h1
  | some i => rw [hi] at h1; exact ⟨i, rfl, Option.some.inj h1⟩
theorem seg_flat {segs wcs : List va_W} {isC : List Nat} (hC : isC.map (fun i => segs[i]?) = wcs.map some) {q : Nat × va_E} (hq : q ∈ wcs.flatten) : ∃ i w, i ∈ isC ∧ segs[i]? = some w ∧ q ∈ w := by
  obtain ⟨w, hw, hqw⟩ := List.mem_flatten.mp hq
  obtain ⟨j, hj⟩ := List.mem_iff_getElem?.mp hw
  obtain ⟨i, h1, h2⟩ := seg_mem hC hj
  exact ⟨i, w, List.mem_of_getElem? h1, h2, hqw⟩
theorem seg_in {segs : List va_W} {i : Nat} {w : va_W} {q : Nat × va_E} (h : segs[i]? = some w) (hq : q ∈ w) : q ∈ segs.flatten := List.mem_flatten.mpr ⟨w, List.mem_of_getElem? h, hq⟩
theorem sP {D : va_G} {segs : List va_W} {H : Heap} (hP : va_P D vwCl segs.flatten H) (k : Nat) {w : va_W} (hk : segs[k]? = some w) : va_P D vwCl w H := P_mem.mpr (fun q hq => P_mem.mp hP q (seg_in hk hq))
theorem sCut {D : va_G} {segs wcs : List va_W} {H : Heap} (hP : va_P D vwCl segs.flatten H) (isC : List Nat) (hC : isC.map (fun i => segs[i]?) = wcs.map some) : va_P D vwCl wcs.flatten H :=
  P_mem.mpr (fun q hq => by
    obtain ⟨i, w, _, h2, h3⟩ := seg_flat hC hq
    exact P_mem.mp hP q (seg_in h2 h3))
theorem sSub {A : Nat → Prop} {segs wcs : List va_W} (hD : va_D A segs.flatten) (isC : List Nat) (hn : isC.Nodup) (hC : isC.map (fun i => segs[i]?) = wcs.map some) : va_D (fun _ => True) wcs.flatten := by
  refine D_iff.mpr ⟨List.pairwise_flatten.mpr ⟨fun w hw => ?_, List.pairwise_iff_getElem.mpr (fun i j hi hj hij p hp q hq => ?_)⟩, fun _ _ => trivial⟩
  · obtain ⟨j, hj⟩ := List.mem_iff_getElem?.mp hw
    obtain ⟨i, _, h2⟩ := seg_mem hC hj
    exact (List.pairwise_flatten.mp (D_iff.mp hD).1).1 w (List.mem_of_getElem? h2)
  · obtain ⟨a, ha1, ha2⟩ := seg_mem hC (List.getElem?_eq_getElem hi)
    obtain ⟨b, hb1, hb2⟩ := seg_mem hC (List.getElem?_eq_getElem hj)
    obtain ⟨x1, x2⟩ := List.getElem?_eq_some_iff.mp ha1
    obtain ⟨y1, y2⟩ := List.getElem?_eq_some_iff.mp hb1
    refine seg_ne hD ha2 hb2 (fun e => ?_) hp hq
    have := List.pairwise_iff_getElem.mp hn i j x1 y1 hij
    exact this (by rw [x2, y2]; exact e)
theorem sFree {A0 : Nat → Prop} {segs wcs : List va_W} {H0 H : Heap} {locs : List Loc} (hD : va_D A0 segs.flatten) (hS : va_S A0 H0 H locs) (hA : ∀ q, H0.size ≤ q → A0 q) (isC : List Nat) (hC : isC.map (fun i => segs[i]?) = wcs.map some) : ∀ q, va_A wcs.flatten H.size q → A0 q := by
  rintro q (⟨k, e, h⟩ | h)
  · obtain ⟨i, w, _, h2, h3⟩ := seg_flat hC (List.mem_of_getElem? h)
    exact (D_iff.mp hD).2 (q, e) (seg_in h2 h3)
  · exact hA q (Nat.le_trans hS.1 h)
def gset {α : Type} : List α → List Nat → List α → List α
  | ws, i :: is, c :: cs => gset (ws.set i c) is cs
  | ws, _, _ => ws
theorem gset_get {α : Type} : ∀ (is : List Nat) (cs ws : List α) (k : Nat) (q : α), (gset ws is cs)[k]? = some q → is.length = cs.length → (∃ j : Nat, cs[j]? = some q) ∨ (ws[k]? = some q ∧ k ∉ is) := by
  intro is
  induction is with
  | nil =>
    intro cs ws k q h _
    refine Or.inr ⟨?_, List.not_mem_nil⟩
    cases cs <;> exact h
  | cons i is ih =>
    intro cs ws k q h hl
    cases cs with
    | nil => cases hl
    | cons c cs =>
      rcases ih cs (ws.set i c) k q h (Nat.succ.inj hl) with ⟨j, h1⟩ | ⟨h1, h2⟩
      · exact Or.inl ⟨j + 1, h1⟩
      · rw [List.getElem?_set] at h1
        by_cases e : i = k
        · subst e
          rw [if_pos rfl] at h1
          split at h1
          · exact Or.inl ⟨0, h1⟩
          · cases h1
        · rw [if_neg e] at h1
          refine Or.inr ⟨h1, fun hm => ?_⟩
          rcases List.mem_cons.mp hm with q | q
          · exact e q.symm
          · exact h2 q
theorem flat1 {w : va_W} : List.flatten [w] = w := by simp
theorem sJoin {A0 : Nat → Prop} {D : va_G} {segs wcs w1s w2s : List va_W} {H H1 : Heap} (hP : va_P D vwCl segs.flatten H) (hD : va_D A0 segs.flatten) (isC : List Nat) (hC : isC.map (fun i => segs[i]?) = wcs.map some)
    (hk : ∀ q : Nat, q < H.size → ¬ va_A wcs.flatten H.size q → H1[q]? = H[q]?) (hP1 : va_P D vwCl w1s.flatten H1) (hl : isC.length = w1s.length) (hw : gset segs isC w1s = w2s) (ha : w2s.map adr = segs.map adr) : va_P D vwCl w2s.flatten H1 ∧ va_D A0 w2s.flatten := by
  have hadr : adr w2s.flatten = adr segs.flatten := by
    unfold adr at ha ⊢
    rw [List.map_flatten, List.map_flatten, ha]
  refine ⟨P_mem.mpr (fun q hq => ?_), D_iff.mpr ⟨?_, fun q hq => ?_⟩⟩
  · obtain ⟨w, hw2, hqw⟩ := List.mem_flatten.mp hq
    obtain ⟨k, hkk⟩ := List.mem_iff_getElem?.mp hw2
    rw [← hw] at hkk
    rcases gset_get isC w1s segs k w hkk hl with ⟨j, h1⟩ | ⟨h1, h2⟩
    · exact P_mem.mp hP1 q (seg_in h1 hqw)
    · have hat := P_mem.mp hP q (seg_in h1 hqw)
      refine hat.kept (hk q.1 hat.lt ?_)
      rintro (⟨k', e, h3⟩ | h3)
      · obtain ⟨i, w', hi, h4, h5⟩ := seg_flat hC (List.mem_of_getElem? h3)
        exact seg_ne hD h4 h1 (fun e => h2 (e ▸ hi)) h5 hqw rfl
      · have := hat.lt
        omega
  · have h1 := (D_iff.mp hD).1
    have h2 : (adr segs.flatten).Pairwise (· ≠ ·) := List.pairwise_map.mpr h1
    rw [← hadr] at h2
    exact List.pairwise_map.mp h2
  · have h1 : q.1 ∈ adr w2s.flatten := List.mem_map.mpr ⟨q, hq, rfl⟩
    rw [hadr] at h1
    obtain ⟨q', h2, h3⟩ := List.mem_map.mp h1
    rw [← h3]
    exact (D_iff.mp hD).2 q' h2
theorem mPreVS {D : va_G} {ty : List (ClassId × FieldType)} {s : State} {H : Heap} {A : Nat → Prop} {segs : List va_W} {C : String} {b : Addr} {As : List Value} {wc : va_W} (wcs : List va_W) (hwc : wcs.flatten = wc) (hP : va_P D vwCl segs.flatten H) (hD : va_D A segs.flatten) (hK : va_K D vwCl ty s) (hN : nW s) (isC : List Nat) (hC : isC.map (fun i => segs[i]?) = wcs.map some) (hn : isC.Nodup)
    (hr : ∃ cell : Cell, H[b]? = some cell ∧ cell.vm.isStatics = false ∧ s.vm.findClass C = some cell.cls) : PreV s H C b (mP D ty (.ref b :: As) wc H.size) As := by
  subst hwc
  exact ⟨mP_blind, hr, fun U hU hW => ⟨rfl, by rw [hU], by rw [hU]; exact sCut hP isC hC, va_K.moved hW.alike hK, sSub hD isC hn hC, nW_warm hW hN⟩⟩
theorem mPreSS {D : va_G} {ty : List (ClassId × FieldType)} {s : State} {H : Heap} {A : Nat → Prop} {segs : List va_W} {As : List Value} {wc : va_W} (wcs : List va_W) (hwc : wcs.flatten = wc) (hP : va_P D vwCl segs.flatten H) (hD : va_D A segs.flatten) (hK : va_K D vwCl ty s) (hN : nW s) (isC : List Nat) (hC : isC.map (fun i => segs[i]?) = wcs.map some) (hn : isC.Nodup) : PreS s H (mP D ty As wc H.size) As := by
  subst hwc
  exact ⟨mP_blind, fun U hU hW => ⟨rfl, by rw [hU], by rw [hU]; exact sCut hP isC hC, va_K.moved hW.alike hK, sSub hD isC hn hC, nW_warm hW hN⟩⟩
section SK
variable {p : Program} {l : Launch} {e : Env} {R : Room} {s : State} {m : MethodId} {args : Array Value} {below : List Frame} {meth : Method} {c : Code} {H : Heap} {locs : List Loc} {cells slots : Nat} {Q : State → Prop} {pc : Nat} {ls : Array Slot} {rest st0 : List Value} {D : va_G} {ty : List (ClassId × FieldType)} {A : Nat → Prop} {H0 : Heap} {segs wcs w1s w2s : List va_W} {wc w1 : va_W} {a : Array Value}
theorem mGoiS {F : Int32} (hwc : wcs.flatten = wc) (hw1 : w1s.flatten = w1) (hr : va_Run p l e R s m args below meth c H locs cells slots 0 0 (F0 m pc ls st0) rest (mQi D ty F (va_A wc H.size) w1 a) (va_A wc H.size))
    (hP : va_P D vwCl segs.flatten H) (hD : va_D A segs.flatten) (hS : va_S A H0 H locs) (hA : ∀ q, H0.size ≤ q → A q) (isC : List Nat) (hC : isC.map (fun i => segs[i]?) = wcs.map some) (hl : isC.length = w1s.length) (hw2 : gset segs isC w1s = w2s) (ha : w2s.map adr = segs.map adr)
    (kk : ∀ (H1 : Heap) (locs1 : List Loc), va_P D vwCl w2s.flatten H1 → va_D A w2s.flatten → va_S A H0 H1 locs1 → W p l e R s m args below meth c H1 locs1 cells slots Q (F0 m (pc + 3) ls (.int F :: rest))) : W p l e R s m args below meth c H locs cells slots Q (F0 m pc ls st0) := by
  subst hwc
  subst hw1
  have hF := sFree hD hS hA isC hC
  refine va_calli hr hS (fun q _ h => hF q h) hF (fun r u t H1 locs1 ht hvm hw hB hz1 hk1 hS1 => ?_)
  obtain ⟨hP1, hK1, hD1⟩ := hB
  rw [ht] at hP1
  obtain ⟨hP2, hD2⟩ := sJoin hP hD isC hC hk1 hP1 hl hw2 ha
  rw [hw]
  exact kk H1 locs1 hP2 hD2 hS1
theorem mGovS (hwc : wcs.flatten = wc) (hw1 : w1s.flatten = w1) (hr : va_Run p l e R s m args below meth c H locs cells slots 0 0 (F0 m pc ls st0) rest (mQv D ty (va_A wc H.size) w1 a) (va_A wc H.size))
    (hP : va_P D vwCl segs.flatten H) (hD : va_D A segs.flatten) (hS : va_S A H0 H locs) (hA : ∀ q, H0.size ≤ q → A q) (isC : List Nat) (hC : isC.map (fun i => segs[i]?) = wcs.map some) (hl : isC.length = w1s.length) (hw2 : gset segs isC w1s = w2s) (ha : w2s.map adr = segs.map adr)
    (kk : ∀ (H1 : Heap) (locs1 : List Loc), va_P D vwCl w2s.flatten H1 → va_D A w2s.flatten → va_S A H0 H1 locs1 → W p l e R s m args below meth c H1 locs1 cells slots Q (F0 m (pc + 3) ls rest)) : W p l e R s m args below meth c H locs cells slots Q (F0 m pc ls st0) := by
  subst hwc
  subst hw1
  have hF := sFree hD hS hA isC hC
  refine va_callv hr hS (fun q _ h => hF q h) hF (fun u t H1 locs1 ht hvm hw hB hz1 hk1 hS1 => ?_)
  obtain ⟨hP1, hK1, hD1⟩ := hB
  rw [ht] at hP1
  obtain ⟨hP2, hD2⟩ := sJoin hP hD isC hC hk1 hP1 hl hw2 ha
  exact kk H1 locs1 hP2 hD2 hS1
theorem mGorS {F : Nat} (hwc : wcs.flatten = wc) (hw1 : w1s.flatten = w1) (hr : va_Run p l e R s m args below meth c H locs cells slots 0 0 (F0 m pc ls st0) rest (mQr D ty F (va_A wc H.size) w1 a) (va_A wc H.size))
    (hP : va_P D vwCl segs.flatten H) (hD : va_D A segs.flatten) (hS : va_S A H0 H locs) (hA : ∀ q, H0.size ≤ q → A q) (isC : List Nat) (hC : isC.map (fun i => segs[i]?) = wcs.map some) (hl : isC.length = w1s.length) (hw2 : gset segs isC w1s = w2s) (ha : w2s.map adr = segs.map adr)
    (kk : ∀ (H1 : Heap) (locs1 : List Loc), va_P D vwCl w2s.flatten H1 → va_D A w2s.flatten → va_S A H0 H1 locs1 → W p l e R s m args below meth c H1 locs1 cells slots Q (F0 m (pc + 3) ls (.ref F :: rest))) : W p l e R s m args below meth c H locs cells slots Q (F0 m pc ls st0) := by
  subst hwc
  subst hw1
  have hF := sFree hD hS hA isC hC
  refine va_callr hr hS (fun q _ h => hF q h) hF (fun u ra t H1 locs1 ht hvm hw hB hz1 hk1 hS1 => ?_)
  obtain ⟨hra, hP1, hK1, hD1⟩ := hB
  rw [ht] at hP1
  obtain ⟨hP2, hD2⟩ := sJoin hP hD isC hC hk1 hP1 hl hw2 ha
  rw [hra]
  exact kk H1 locs1 hP2 hD2 hS1
end SK
abbrev W_Co (cI cC cT : ClassId) (h0 h1 h2 h3 h4 g0 : Nat) (mn : Int32) (oc : Nat → Int32) (os : Nat → Int32) (sd : Nat → Int32) (tg : Nat → Int32) : va_W := [(h0, .inr (0, [.ref g0, .ref h1, .ref h2, .ref h3, .ref h4, .int mn])), (h1, .inl (cI, 10, .inl oc)), (h2, .inl (cI, 200, .inl os)), (h3, .inl (cI, 10, .inl sd)), (h4, .inl (cI, 10, .inl tg))]
abbrev W_Hh (cI cC cT : ClassId) (h0 h1 g0 g1 g2 g3 : Nat) (nx : Int32) (nz : Int32) : va_W := [(h0, .inr (1, [.ref h1, .int nx, .int nz])), (h1, .inl (cT, 4, .inr (.inr (.inr (.inr ((va_up (va_up (va_up (va_up (fun _ => none) 0 (some g0)) 1 (some g1)) 2 (some g2)) 3 (some g3))))))))]
abbrev W_R0 (cI cC cT : ClassId) (h0 g0 g1 : Nat) (po : Int32) : va_W := [(h0, .inr (2, [.ref g0, .ref g1, .int po]))]
abbrev W_S0 (cI cC cT : ClassId) (h0 g0 g1 g2 g3 g4 g5 : Nat) (sk : Int32) : va_W := [(h0, .inr (5, [.ref g0, .ref g1, .ref g2, .ref g3, .int sk, .ref g4, .ref g5]))]
