/-! acts on the table, both sides -/
def pushF (K : Nat → Nat) (n x : Nat) : Nat → Nat := fun j => if j = n then x else K j
def dropF (K : Nat → Nat) (r : Nat) : Nat → Nat := fun j => if j < r then K j else K (j + 1)
def selF (K : Nat → Nat) (L : List Nat) : Nat → Nat := fun j => K (L.getD j 0)
def kl (p : Nat → Bool) (n : Nat) : List Nat := op (fun _ => 0) p 0 n
theorem kl_mem {p : Nat → Bool} {n j : Nat} : j ∈ kl p n ↔ j < n ∧ p j = true := by
  unfold kl
  rw [op_mem]
  exact ⟨fun h => ⟨h.1, h.2.2⟩, fun h => ⟨h.1, rfl, h.2⟩⟩
theorem kl_succ {p : Nat → Bool} {n : Nat} : kl p (n + 1) = if p n = true then kl p n ++ [n] else kl p n := by
  show (if 0 = 0 ∧ p n = true then _ else _) = _
  by_cases e : p n = true
  · rw [if_pos ⟨rfl, e⟩, if_pos e]; rfl
  · rw [if_neg (fun q => e q.2), if_neg e]; rfl
theorem kl_len {p : Nat → Bool} : ∀ n, (kl p n).length = cntP p n := by
  intro n
  induction n with
  | zero => rfl
  | succ n ih =>
    rw [kl_succ]
    unfold cntP
    by_cases e : p n = true
    · rw [if_pos e, if_pos e, List.length_append, ih]; rfl
    · rw [if_neg e, if_neg e, ih]; rfl
theorem kl_filter {p : Nat → Bool} : ∀ n, kl p n = (List.range n).filter p := by
  intro n
  induction n with
  | zero => rfl
  | succ n ih =>
    rw [kl_succ, List.range_succ, List.filter_append, ih]
    by_cases e : p n = true
    · rw [if_pos e]; simp [e]
    · rw [if_neg e]; simp [e]
theorem kl_all {p : Nat → Bool} {n : Nat} (h : ∀ j, j < n → p j = true) : kl p n = List.range n := by
  rw [kl_filter]
  exact List.filter_eq_self.mpr (fun j hj => h j (List.mem_range.mp hj))
theorem range_getD {n j : Nat} (h : j < n) : (List.range n).getD j 0 = j := by
  rw [List.getD_eq_getElem?_getD, List.getElem?_range h]
  rfl
theorem TF_ext {n : Nat} {K V G T K' V' G' T' : Nat → Nat} {nr : Int32} {ks vs wg ts : Nat → Int32} (h : TF n K V G T nr ks vs wg ts) (e : ∀ j, j < n → K' j = K j ∧ V' j = V j ∧ G' j = G j ∧ T' j = T j) : TF n K' V' G' T' nr ks vs wg ts := by
  obtain ⟨h1, h2, h3⟩ := h
  refine ⟨h1, h2, fun j hj => ?_⟩
  obtain ⟨e1, e2, e3, e4⟩ := e j hj
  rw [e1, e2, e3, e4]
  exact h3 j hj
theorem TF_congr {n : Nat} {K V G T : Nat → Nat} {nr : Int32} {ks vs wg ts ks' vs' wg' ts' : Nat → Int32} (h : TF n K V G T nr ks vs wg ts) (e : ∀ j, j < 20 → ks' j = ks j ∧ vs' j = vs j ∧ wg' j = wg j ∧ ts' j = ts j) : TF n K V G T nr ks' vs' wg' ts' := by
  obtain ⟨h1, h2, h3⟩ := h
  refine ⟨h1, h2, fun j hj => ?_⟩
  obtain ⟨e1, e2, e3, e4⟩ := e j (by omega)
  rw [e1, e2, e3, e4]
  exact h3 j hj
section ACTC
variable {n : Nat} {K V G T : Nat → Nat} {nr : Int32} {ks vs wg ts : Nat → Int32}
theorem c_room (h : TF n K V G T nr ks vs wg ts) : f_X3_room nr = some (nI (20 - n)) := by
  unfold f_X3_room
  rw [h.1, show (20 : Int32) = nI 20 from rfl, nI_subO h.2.1]
theorem c_append (h : TF n K V G T nr ks vs wg ts) (hn : n < 20) {k v g t : Nat} (hk : k < 10) (hv : v < 8) (hg : g < 100) (ht : t ≤ 10) :
    ∃ ks' vs' wg' ts', f_X3_append nr ks vs wg ts (nI k) (nI (97 + v)) (nI g) (tI t) = some (nI (n + 1), ks', vs', wg', ts') ∧ TF (n + 1) (pushF K n k) (pushF V n v) (pushF G n g) (pushF T n t) (nI (n + 1)) ks' vs' wg' ts' := by
  have h0 := h
  obtain ⟨h1, h2, h3⟩ := h
  refine ⟨upd ks n (nI k), upd vs n (nI (97 + v)), upd wg n (nI g), upd ts n (tI t), ?_, rfl, by omega, fun j hj => ?_⟩
  · unfold f_X3_append
    rw [c_room h0, bs, if_neg (nI_nle (by omega) (by omega)), h1, put_in hn (by omega), bs, put_in hn (by omega), bs, put_in hn (by omega), bs, put_in hn (by omega), bs, nI_1]
  · unfold upd pushF
    by_cases e : j = n
    · simp only [e, if_true]
      exact ⟨trivial, trivial, trivial, trivial, hk, hv, hg, ht⟩
    · simp only [if_neg e]
      exact h3 j (by omega)
def sh (u : Nat → Int32) (r i : Nat) : Nat → Int32 := fun j => if r ≤ j ∧ j < r + i then u (j + 1) else u j
theorem sh_step (u : Nat → Int32) (r i : Nat) : upd (sh u r i) (r + i) (sh u r i (r + i + 1)) = sh u r (i + 1) := by
  funext j
  unfold upd sh
  rw [if_neg (show ¬ (r ≤ r + i + 1 ∧ r + i + 1 < r + i) by omega)]
  by_cases e : j = r + i
  · subst e
    rw [if_pos rfl, if_pos (by omega)]
  · rw [if_neg e]
    by_cases q : r ≤ j ∧ j < r + i
    · rw [if_pos q, if_pos (by omega)]
    · rw [if_neg q, if_neg (by omega)]
theorem c_move {a b : Nat} (ha : a < 20) (hb : b < 20) : f_X3_move ks vs wg ts (nI a) (nI b) = some (upd ks b (ks a), upd vs b (vs a), upd wg b (wg a), upd ts b (ts a)) := by
  unfold f_X3_move f_X3_keyAt f_X3_valueAt f_X3_weightAt f_X3_targetAt
  rw [at_in ha (by omega), bs, bs, put_in hb (by omega), bs, at_in ha (by omega), bs, bs, put_in hb (by omega), bs, at_in ha (by omega), bs, bs, put_in hb (by omega), bs, at_in ha (by omega), bs, bs, put_in hb (by omega), bs]
theorem c_has (h : TF n K V G T nr ks vs wg ts) (p : Int32) : f_X3_has nr p = some (bI (dB p n)) := by
  have h2 := h.2.1
  unfold f_X3_has dB
  have z : (0 : Int32).toInt = 0 := by decide
  have hnn : (nI n).toInt = n := nI_toInt (by omega)
  rw [h.1]
  by_cases a : p < 0
  · have a' := Int32.lt_iff_toInt_lt.mp a
    rw [if_pos a, decide_eq_false (by omega)]
    rfl
  · have a' : ¬ p.toInt < (0 : Int32).toInt := fun h => a (Int32.lt_iff_toInt_lt.mpr h)
    rw [if_neg a]
    by_cases b : nI n ≤ p
    · have b' := Int32.le_iff_toInt_le.mp b
      rw [if_pos b, decide_eq_false (by omega)]
      rfl
    · have b' : ¬ (nI n).toInt ≤ p.toInt := fun h => b (Int32.le_iff_toInt_le.mpr h)
      rw [if_neg b, decide_eq_true (by omega)]
      rfl
theorem c_hasT (h : TF n K V G T nr ks vs wg ts) {r : Nat} (hr : r < n) : f_X3_has nr (nI r) = some 1 := by
  have := h.2.1
  rw [c_has h, dB_nI (by omega), decide_eq_true hr]
  rfl
theorem c_drop (h : TF n K V G T nr ks vs wg ts) {r : Nat} (hr : r < n) :
    ∃ ks' vs' wg' ts', f_X3_drop nr ks vs wg ts (nI r) = some (nI (n - 1), ks', vs', wg', ts') ∧ TF (n - 1) (dropF K r) (dropF V r) (dropF G r) (dropF T r) (nI (n - 1)) ks' vs' wg' ts' := by
  have h0 := h
  obtain ⟨h1, h2, h3⟩ := h
  refine ⟨sh ks r (n - 1 - r), sh vs r (n - 1 - r), sh wg r (n - 1 - r), sh ts r (n - 1 - r), ?_, rfl, by omega, fun j hj => ?_⟩
  · unfold f_X3_drop
    rw [c_hasT h0 hr, bs, if_neg (by decide)]
    refine iter_inv_eq _ (fun i => (nI (r + i + 1), sh ks r i, sh vs r i, sh wg r i, sh ts r i)) (n - 1 - r) (by omega) ?_ (fun i hi => ?_) ?_
    · have hz : ∀ u : Nat → Int32, sh u r 0 = u := fun u => by
        funext j
        unfold sh
        rw [if_neg (by omega)]
      rw [hz, hz, hz, hz, nI_1]
    · simp only [b_X3_drop_1]
      rw [h1, if_neg (nI_ge (by omega) (by omega)), nI_pred, c_move (by omega) (by omega), bs, nI_1, sh_step, sh_step, sh_step, sh_step]
      rfl
    · simp only [b_X3_drop_1]
      rw [h1, if_pos (nI_le (by omega) (by omega)), show (1 : Int32) = nI 1 from rfl, nI_subO (by omega)]
  · unfold sh dropF
    by_cases e : j < r
    · simp only [if_pos e, if_neg (show ¬ (r ≤ j ∧ j < r + (n - 1 - r)) by omega)]
      exact h3 j (by omega)
    · simp only [if_neg e, if_pos (show r ≤ j ∧ j < r + (n - 1 - r) by omega)]
      exact h3 (j + 1) (by omega)
/-- the rows that stay when row r's key is mended by it -/
def kpB (K : Nat → Nat) (r j : Nat) : Bool := decide (j = r) || !(K j == K r)
def FLp (p : Nat → Bool) (i : Nat) (u u' : Nat → Int32) : Prop := (∀ t, t < (kl p i).length → u' t = u ((kl p i).getD t 0)) ∧ ∀ t, i ≤ t → u' t = u t
theorem FL_keep {p : Nat → Bool} {i : Nat} {u u' : Nat → Int32} (h : FLp p i u u') (hp : p i = true) : FLp p (i + 1) u (upd u' (kl p i).length (u' i)) := by
  obtain ⟨h1, h2⟩ := h
  have hle : (kl p i).length ≤ i := by rw [kl_len]; exact cntP_le p i
  unfold FLp
  rw [kl_succ, if_pos hp]
  refine ⟨fun t ht => ?_, fun t ht => ?_⟩
  · rw [List.length_append] at ht
    rw [getD_app]
    unfold upd
    by_cases e : t = (kl p i).length
    · rw [if_pos e, if_neg (by omega), if_pos e]
      exact h2 i (Nat.le_refl _)
    · have ht2 : t < (kl p i).length := by simp only [List.length_singleton] at ht; omega
      rw [if_neg e, if_pos ht2]
      exact h1 t ht2
  · unfold upd
    rw [if_neg (by omega)]
    exact h2 t (by omega)
theorem FL_skip {p : Nat → Bool} {i : Nat} {u u' : Nat → Int32} (h : FLp p i u u') (hp : ¬ p i = true) : FLp p (i + 1) u u' := by
  obtain ⟨h1, h2⟩ := h
  unfold FLp
  rw [kl_succ, if_neg hp]
  exact ⟨h1, fun t ht => h2 t (by omega)⟩
theorem c_dropOthers (h : TF n K V G T nr ks vs wg ts) {r : Nat} (hr : r < n) :
    ∃ ks' vs' wg' ts', f_X3_dropOthersLike nr ks vs wg ts (nI r) = some (nI (kl (kpB K r) n).length, ks', vs', wg', ts') ∧ TF (kl (kpB K r) n).length (selF K (kl (kpB K r) n)) (selF V (kl (kpB K r) n)) (selF G (kl (kpB K r) n)) (selF T (kl (kpB K r) n)) (nI (kl (kpB K r) n).length) ks' vs' wg' ts' := by
  have h0 := h
  obtain ⟨h1, h2, h3⟩ := h
  have hlen : ∀ i, (kl (kpB K r) i).length ≤ i := fun i => by rw [kl_len]; exact cntP_le _ i
  unfold f_X3_dropOthersLike
  rw [c_hasT h0 hr, bs, if_neg (by decide), h0.keyAt hr, bs]
  obtain ⟨o, g1, ks', vs', wg', ts', g2, f1, f2, f3, f4⟩ := iter_inv2 (b_X3_dropOthersLike_1 nr (nI r) (nI (K r))) (fun i z => z.1 = nI (kl (kpB K r) i).length ∧ z.2.1 = nI i ∧ FLp (kpB K r) i ks z.2.2.1 ∧ FLp (kpB K r) i vs z.2.2.2.1 ∧ FLp (kpB K r) i wg z.2.2.2.2.1 ∧ FLp (kpB K r) i ts z.2.2.2.2.2) n (fun o => ∃ ks' vs' wg' ts', o = (nI (kl (kpB K r) n).length, ks', vs', wg', ts') ∧ FLp (kpB K r) n ks ks' ∧ FLp (kpB K r) n vs vs' ∧ FLp (kpB K r) n wg wg' ∧ FLp (kpB K r) n ts ts') (by omega) (by
    rintro i ⟨lf, v, k1, v1, w1, t1⟩ hi ⟨e1, e2, f1, f2, f3, f4⟩
    dsimp only at e1 e2 f1 f2 f3 f4
    subst e1 e2
    have hl := hlen i
    have hKi := (h3 i hi).2.2.2.2.1
    have hKr := (h3 r hr).2.2.2.2.1
    simp only [b_X3_dropOthersLike_1]
    rw [h1, if_neg (nI_ge hi (by omega))]
    have hkeep : kpB K r i = true → (Option.bind (some (nI ((kl (kpB K r) i).length + 1), upd k1 (kl (kpB K r) i).length (k1 i), upd v1 (kl (kpB K r) i).length (v1 i), upd w1 (kl (kpB K r) i).length (w1 i), upd t1 (kl (kpB K r) i).length (t1 i))) (fun (x : Int32 × (Nat → Int32) × (Nat → Int32) × (Nat → Int32) × (Nat → Int32)) => (some (Sum.inl (x.1, nI i + 1, x.2.1, x.2.2.1, x.2.2.2.1, x.2.2.2.2)) : Option ((Int32 × Int32 × (Nat → Int32) × (Nat → Int32) × (Nat → Int32) × (Nat → Int32)) ⊕ (Int32 × (Nat → Int32) × (Nat → Int32) × (Nat → Int32) × (Nat → Int32))))) = some (Sum.inl (nI (kl (kpB K r) (i + 1)).length, nI (i + 1), upd k1 (kl (kpB K r) i).length (k1 i), upd v1 (kl (kpB K r) i).length (v1 i), upd w1 (kl (kpB K r) i).length (w1 i), upd t1 (kl (kpB K r) i).length (t1 i)))) := by
      intro hp
      rw [bs, kl_succ, if_pos hp, List.length_append, nI_1]
      rfl
    by_cases e : i = r
    · have hp : kpB K r i = true := by unfold kpB; rw [decide_eq_true e]; rfl
      rw [if_pos (by rw [e]), c_move (by omega) (by omega), bs]
      try dsimp only
      rw [nI_1]
      exact Or.inl ⟨_, hkeep hp, rfl, rfl, FL_keep f1 hp, FL_keep f2 hp, FL_keep f3 hp, FL_keep f4 hp⟩
    · rw [if_neg (fun q => e ((nI_eq (by omega) (by omega)).mp q))]
      have hk1 : f_X3_keyAt k1 (nI i) = some (nI (K i)) := by
        unfold f_X3_keyAt
        rw [at_in (by omega) (by omega), bs, f1.2 i (Nat.le_refl _), (h3 i hi).1]
      rw [hk1, bs]
      by_cases e2 : K i = K r
      · have hp : ¬ kpB K r i = true := by unfold kpB; rw [decide_eq_false e, e2, beq_self_eq_true]; decide
        rw [if_pos (by rw [e2]), bs]
        try dsimp only
        rw [nI_1]
        refine Or.inl ⟨_, rfl, ?_, rfl, FL_skip f1 hp, FL_skip f2 hp, FL_skip f3 hp, FL_skip f4 hp⟩
        show nI _ = nI _
        rw [kl_succ, if_neg hp]
      · have hp : kpB K r i = true := by unfold kpB; rw [show (K i == K r) = false by simpa using e2]; simp
        rw [if_neg (fun q => e2 ((nI_eq (by omega) (by omega)).mp q)), c_move (by omega) (by omega), bs]
        try dsimp only
        rw [nI_1]
        exact Or.inl ⟨_, hkeep hp, rfl, rfl, FL_keep f1 hp, FL_keep f2 hp, FL_keep f3 hp, FL_keep f4 hp⟩) (by
    rintro ⟨lf, v, k1, v1, w1, t1⟩ ⟨e1, e2, f1, f2, f3, f4⟩
    dsimp only at e1 e2 f1 f2 f3 f4
    subst e1 e2
    simp only [b_X3_dropOthersLike_1]
    rw [h1, if_pos (nI_le (Nat.le_refl _) (by omega))]
    exact ⟨_, rfl, _, _, _, _, rfl, f1, f2, f3, f4⟩) (s0 := (0, 0, ks, vs, wg, ts)) ⟨rfl, rfl, ⟨fun t ht => (by cases ht), fun _ _ => rfl⟩, ⟨fun t ht => (by cases ht), fun _ _ => rfl⟩, ⟨fun t ht => (by cases ht), fun _ _ => rfl⟩, ⟨fun t ht => (by cases ht), fun _ _ => rfl⟩⟩
  refine ⟨ks', vs', wg', ts', by rw [g1, g2], rfl, Nat.le_trans (hlen n) h2, fun j hj => ?_⟩
  have hm := kl_mem.mp (getD_mem hj)
  rw [f1.1 j hj, f2.1 j hj, f3.1 j hj, f4.1 j hj]
  exact h3 _ hm.1
end ACTC
section ACTM
variable {n : Nat} {K V G T : Nat → Nat} {pf : Bool} {al : Nat → Int32}
def shm (u : Nat → Int32) (a i : Nat) : Nat → Int32 := fun j => if a ≤ j ∧ j < a + i then u (j + 4) else u j
theorem shm_step (u : Nat → Int32) (a i : Nat) : upd (shm u a i) (a + i) (shm u a i (a + i + 4)) = shm u a (i + 1) := by
  funext j
  unfold upd shm
  rw [if_neg (show ¬ (a ≤ a + i + 4 ∧ a + i + 4 < a + i) by omega)]
  by_cases e : j = a + i
  · subst e
    rw [if_pos rfl, if_pos (by omega)]
  · rw [if_neg e]
    by_cases q : a ≤ j ∧ j < a + i
    · rw [if_pos q, if_pos (by omega)]
    · rw [if_neg q, if_neg (by omega)]
/-- the kept ones of the rows from a on -/
def tlL (p : Nat → Bool) (n a : Nat) : List Nat := (List.range' a (n - a)).filter p
theorem tlL_step {p : Nat → Bool} {n a : Nat} (h : a < n) : tlL p n a = if p a = true then a :: tlL p n (a + 1) else tlL p n (a + 1) := by
  unfold tlL
  rw [show n - a = (n - (a + 1)) + 1 by omega, List.range'_succ, List.filter_cons]
theorem tlL_zero {p : Nat → Bool} {n : Nat} : tlL p n 0 = kl p n := by
  unfold tlL
  rw [kl_filter, List.range_eq_range']
  rfl
theorem tlL_end {p : Nat → Bool} {n : Nat} : tlL p n n = [] := by
  unfold tlL
  rw [Nat.sub_self]
  rfl
theorem tlL_len {p : Nat → Bool} {n a : Nat} : (tlL p n a).length ≤ n - a := by
  unfold tlL
  have := List.length_filter_le p (List.range' a (n - a))
  rw [List.length_range'] at this
  exact this
def ix (F : Nat → Nat) (L : List Nat) (a : Nat) : Nat → Nat := fun j => if j < a then F j else F (L.getD (j - a) 0)
theorem ix_keep (F : Nat → Nat) (L : List Nat) (a : Nat) : ix F (a :: L) a = ix F L (a + 1) := by
  funext j
  unfold ix
  by_cases e : j < a
  · rw [if_pos e, if_pos (by omega)]
  · rw [if_neg e]
    by_cases q : j = a
    · subst q
      rw [if_pos (by omega), Nat.sub_self]
      rfl
    · rw [if_neg (by omega), show j - a = (j - (a + 1)) + 1 by omega]
      rfl
theorem ix_drop (F : Nat → Nat) (L : List Nat) (a : Nat) : dropF (ix F L (a + 1)) a = ix F L a := by
  funext j
  unfold dropF ix
  by_cases e : j < a
  · rw [if_pos e, if_pos (by omega), if_pos e]
  · rw [if_neg e, if_neg (by omega), if_neg e, show j + 1 - (a + 1) = j - a by omega]
end ACTM
theorem cntP_add1 {p q : Nat → Bool} {r n : Nat} (hr : r < n) (h1 : p r = true) (h2 : q r = false) (h : ∀ j, j ≠ r → p j = q j) : cntP p n = cntP q n + 1 := by
  induction n with
  | zero => omega
  | succ n ih =>
    unfold cntP
    by_cases e : r = n
    · subst e
      rw [h1, h2, if_pos rfl, cntP_congr (q := q) (fun i hi => h i (by omega))]
      rfl
    · rw [ih (by omega), h n (fun z => e z.symm)]
      omega
theorem kl_cnt {K : Nat → Nat} {r n : Nat} (hr : r < n) : (kl (kpB K r) n).length + cntP (fun j => K j == K r) n = n + 1 := by
  have h1 := cntP_not (fun j => K j == K r) n
  have h2 : cntP (kpB K r) n = cntP (fun j => !(K j == K r)) n + 1 := cntP_add1 hr (by unfold kpB; rw [decide_eq_true rfl]; rfl) (by simp) (fun j hj => by unfold kpB; rw [decide_eq_false hj, Bool.false_or])
  rw [kl_len]
  omega
