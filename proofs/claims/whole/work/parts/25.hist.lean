/-! states kept, both sides: copies, the history's ring and row, the snapshot -/
abbrev TB : Type := Int32 × Int32 × (Nat → Int32) × (Nat → Int32) × (Nat → Int32) × (Nat → Int32)
def RelT (nr pf : Int32) (ks vs wg ts al : Nat → Int32) : Prop := ∃ (n : Nat) (K V G T : Nat → Nat) (b : Bool), TF n K V G T nr ks vs wg ts ∧ pf = bI b ∧ MF n K V G T b al
def RelU (t : TB) (al : Nat → Int32) : Prop := RelT t.1 t.2.1 t.2.2.1 t.2.2.2.1 t.2.2.2.2.1 t.2.2.2.2.2 al
theorem RelT_congr {nr pf : Int32} {ks vs wg ts ks' vs' wg' ts' al al' : Nat → Int32} (h : RelT nr pf ks vs wg ts al) (e : ∀ j, j < 20 → ks' j = ks j ∧ vs' j = vs j ∧ wg' j = wg j ∧ ts' j = ts j) (e2 : ∀ k, k < 82 → al' k = al k) : RelT nr pf ks' vs' wg' ts' al' := by
  obtain ⟨n, K, V, G, T, b, h1, h2, h3⟩ := h
  exact ⟨n, K, V, G, T, b, TF_congr h1 e, h2, MF_congr h3 e2⟩
theorem cpy20 (f g : Nat → Int32) {j : Nat} (h : j < 20) : va_cpy f g 0 0 20 j = f j := by
  unfold va_cpy
  rw [if_pos (by omega)]
  exact congrArg _ (by omega)
theorem isB_of {pf : Int32} {b : Bool} (h : pf = bI b) : isB pf := by rw [h]; exact isB_bI b
theorem c_copyFrom (ks vs wg ts : Nat → Int32) {onr opf : Int32} {oks ovs owg ots : Nat → Int32} (hb : isB opf) : f_X3_copyFrom ks vs wg ts onr opf oks ovs owg ots = some (onr, opf, va_cpy oks ks 0 0 20, va_cpy ovs vs 0 0 20, va_cpy owg wg 0 0 20, va_cpy ots ts 0 0 20) := by
  unfold f_X3_copyFrom f_X5_copy
  rw [bs, bs, bs, bs, if_pos hb]
theorem RelT_cpy {onr opf : Int32} {oks ovs owg ots al : Nat → Int32} (ks vs wg ts : Nat → Int32) (h : RelT onr opf oks ovs owg ots al) : RelT onr opf (va_cpy oks ks 0 0 20) (va_cpy ovs vs 0 0 20) (va_cpy owg wg 0 0 20) (va_cpy ots ts 0 0 20) al :=
  RelT_congr h (fun j hj => ⟨cpy20 _ _ hj, cpy20 _ _ hj, cpy20 _ _ hj, cpy20 _ _ hj⟩) (fun _ _ => rfl)
theorem RelT_isB {nr pf : Int32} {ks vs wg ts al : Nat → Int32} (h : RelT nr pf ks vs wg ts al) : isB pf := by
  obtain ⟨n, K, V, G, T, b, _, h2, _⟩ := h
  exact isB_of h2
theorem m_remember (al sv : Nat → Int32) : ∃ sv', f_X6_remember al sv = some sv' ∧ ∀ k, k < 82 → sv' k = al k := by
  unfold f_X6_remember
  refine iter_inv _ (fun i z => z.1 = nI i ∧ ∀ k, k < i → z.2 k = al k) 82 _ (by omega) ?_ ?_ ⟨rfl, fun k hk => by omega⟩
  · rintro i ⟨v, s1⟩ hi ⟨e1, e2⟩
    dsimp only at e1 e2
    subst e1
    simp only [b_X6_remember_1]
    rw [show (82 : Int32) = nI 82 from rfl, if_neg (nI_ge hi (by omega)), if_pos (nI_in hi (by omega)), if_pos (nI_in hi (by omega)), nI_clamp (by omega), nI_1]
    refine ⟨_, rfl, rfl, fun k hk => ?_⟩
    show upd s1 i _ k = _
    unfold upd
    by_cases e : k = i
    · rw [if_pos e, e]
    · rw [if_neg e]; exact e2 k (by omega)
  · rintro ⟨v, s1⟩ ⟨e1, e2⟩
    dsimp only at e1 e2
    subst e1
    simp only [b_X6_remember_1]
    rw [show (82 : Int32) = nI 82 from rfl, if_pos (nI_le (Nat.le_refl _) (by omega))]
    exact ⟨_, rfl, e2⟩
theorem i82 (z i : Nat) : (82 * nI z) + nI i = nI (82 * z + i) := by rw [show (82 : Int32) = nI 82 from rfl, nI_mulO, nI_add]
/-- block z of the row of states becomes sv -/
def blk (hi : Nat → Int32) (sv : Nat → Int32) (z m : Nat) : Nat → Int32 := fun k => if 82 * z ≤ k ∧ k < 82 * z + m then sv (k - 82 * z) else hi k
theorem blk_step (hi sv : Nat → Int32) (z i : Nat) : upd (blk hi sv z i) (82 * z + i) (sv i) = blk hi sv z (i + 1) := by
  funext k
  unfold upd blk
  by_cases e : k = 82 * z + i
  · subst e
    rw [if_pos rfl, if_pos (by omega)]
    exact congrArg _ (by omega)
  · rw [if_neg e]
    by_cases q : 82 * z ≤ k ∧ k < 82 * z + i
    · rw [if_pos q, if_pos (by omega)]
    · rw [if_neg q, if_neg (by omega)]
theorem blk_zero (hi sv : Nat → Int32) (z : Nat) : blk hi sv z 0 = hi := by
  funext k
  unfold blk
  rw [if_neg (by omega)]
theorem m_acted1 (hi sv : Nat → Int32) (p : Int32) {z : Nat} (hz : z < 4) : iter fuel (b_X6_acted_1 (nI z) sv p) (0, hi) = some (p, nI (z + 1), blk hi sv z 82) := by
  refine iter_inv_eq _ (fun i => (nI i, blk hi sv z i)) 82 (by omega) (by rw [blk_zero]; rfl) (fun i hi' => ?_) ?_
  · simp only [b_X6_acted_1]
    rw [i82, show (82 : Int32) = nI 82 from rfl, if_neg (nI_ge hi' (by omega)), if_pos (nI_in hi' (by omega)), if_pos (nI_in (by omega) (by omega)), nI_clamp (by omega), nI_clamp (by omega), nI_1, blk_step]
  · simp only [b_X6_acted_1]
    rw [show (82 : Int32) = nI 82 from rfl, if_pos (nI_le (Nat.le_refl _) (by omega)), nI_1]
theorem m_acted2 (hi sv : Nat → Int32) (p : Int32) : iter fuel (b_X6_acted_2 (nI 4) sv p) (0, hi) = some (.inr (p, nI 4, blk hi sv 3 82)) := by
  have h3 : nI 4 - 1 = nI 3 := nI_pred 3
  refine iter_inv_eq _ (fun i => (nI i, blk hi sv 3 i)) 82 (by omega) (by rw [blk_zero]; rfl) (fun i hi' => ?_) ?_
  · simp only [b_X6_acted_2]
    rw [h3, i82, show (82 : Int32) = nI 82 from rfl, if_neg (nI_ge hi' (by omega)), if_pos (nI_in hi' (by omega)), if_pos (nI_in (by omega) (by omega)), nI_clamp (by omega), nI_clamp (by omega), nI_1, blk_step]
  · simp only [b_X6_acted_2]
    rw [h3, show (82 : Int32) = nI 82 from rfl, if_pos (nI_le (Nat.le_refl _) (by omega)), nI_1]
def shh (u : Nat → Int32) (i : Nat) : Nat → Int32 := fun j => if j < i then u (j + 82) else u j
theorem shh_step (u : Nat → Int32) (i : Nat) : upd (shh u i) i (shh u i (i + 82)) = shh u (i + 1) := by
  funext j
  unfold upd shh
  rw [if_neg (show ¬ i + 82 < i by omega)]
  by_cases e : j = i
  · subst e
    rw [if_pos rfl, if_pos (by omega)]
  · rw [if_neg e]
    by_cases q : j < i
    · rw [if_pos q, if_pos (by omega)]
    · rw [if_neg q, if_neg (by omega)]
theorem m_acted3 (hi sv : Nat → Int32) (p : Int32) : iter fuel (b_X6_acted_3 (nI 4) sv p) (0, hi) = some (p, nI 4, blk (shh hi 246) sv 3 82) := by
  refine iter_inv_eq _ (fun i => (nI i, shh hi i)) 246 (by omega) ?_ (fun i hi' => ?_) ?_
  · have : shh hi 0 = hi := by
      funext j
      unfold shh
      rw [if_neg (by omega)]
    rw [this]
    rfl
  · simp only [b_X6_acted_3]
    rw [show (246 : Int32) = nI 246 from rfl, if_neg (nI_ge hi' (by omega)), show (82 : Int32) = nI 82 from rfl, nI_add, if_pos (nI_in (by omega) (by omega)), if_pos (nI_in (by omega) (by omega)), nI_clamp (by omega), nI_clamp (by omega), nI_1, shh_step]
  · simp only [b_X6_acted_3]
    rw [show (246 : Int32) = nI 246 from rfl, if_pos (nI_le (Nat.le_refl _) (by omega)), m_acted2]
def nz' (z : Nat) : Nat := if z = 4 then 4 else z + 1
theorem m_acted (hi sv : Nat → Int32) (p : Int32) {z : Nat} (hz : z ≤ 4) : ∃ hi', f_X6_acted (nI z) sv hi p = some (p, nI (nz' z), hi') ∧ ∀ i, i < nz' z → ∀ k, k < 82 → hi' (82 * i + k) = if i + 1 = nz' z then sv k else hi (82 * (if z = 4 then i + 1 else i) + k) := by
  unfold f_X6_acted nz'
  by_cases e : z = 4
  · subst e
    rw [show (4 : Int32) = nI 4 from rfl, if_pos rfl, m_acted3, if_pos rfl]
    refine ⟨_, rfl, fun i hi' k hk => ?_⟩
    rw [if_pos rfl]
    unfold blk shh
    by_cases q : i + 1 = 4
    · rw [if_pos q, if_pos (by omega)]
      exact congrArg _ (by omega)
    · rw [if_neg q, if_neg (by omega), if_pos (by omega)]
      exact congrArg _ (by omega)
  · rw [show (4 : Int32) = nI 4 from rfl, if_neg (fun w => e ((nI_eq (by omega) (by omega)).mp w)), m_acted1 hi sv p (by omega), if_neg e]
    refine ⟨_, rfl, fun i hi' k hk => ?_⟩
    rw [if_neg e]
    unfold blk
    by_cases q : i + 1 = z + 1
    · rw [if_pos q, if_pos (by omega)]
      exact congrArg _ (by omega)
    · rw [if_neg q, if_neg (by omega)]
def sel4 (a b c d : TB) (i : Nat) : TB := if i = 0 then a else if i = 1 then b else if i = 2 then c else d
def HR (nx nz hlg : Int32) (a b c d : TB) (hi : Nat → Int32) : Prop := ∃ x z : Nat, x < 4 ∧ z ≤ 4 ∧ nx = nI x ∧ nz = nI z ∧ hlg = nI z ∧ ∀ i, i < z → RelU (sel4 a b c d ((x + 4 - z + i) % 4)) (fun k => hi (82 * i + k))

theorem c_remember {x z : Nat} (hx : x < 4) (hz : z ≤ 4) (h0nr : Int32) (h0pf : Int32) (h0ks : Nat → Int32) (h0vs : Nat → Int32) (h0wg : Nat → Int32) (h0ts : Nat → Int32) (h1nr : Int32) (h1pf : Int32) (h1ks : Nat → Int32) (h1vs : Nat → Int32) (h1wg : Nat → Int32) (h1ts : Nat → Int32) (h2nr : Int32) (h2pf : Int32) (h2ks : Nat → Int32) (h2vs : Nat → Int32) (h2wg : Nat → Int32) (h2ts : Nat → Int32) (h3nr : Int32) (h3pf : Int32) (h3ks : Nat → Int32) (h3vs : Nat → Int32) (h3wg : Nat → Int32) (h3ts : Nat → Int32) (onr : Int32) (opf : Int32) (oks : Nat → Int32) (ovs : Nat → Int32) (owg : Nat → Int32) (ots : Nat → Int32) (hb : isB opf) :
    ∃ (cks cvs cwg cts : Nat → Int32) (g0nr : Int32) (g0pf : Int32) (g0ks : Nat → Int32) (g0vs : Nat → Int32) (g0wg : Nat → Int32) (g0ts : Nat → Int32) (g1nr : Int32) (g1pf : Int32) (g1ks : Nat → Int32) (g1vs : Nat → Int32) (g1wg : Nat → Int32) (g1ts : Nat → Int32) (g2nr : Int32) (g2pf : Int32) (g2ks : Nat → Int32) (g2vs : Nat → Int32) (g2wg : Nat → Int32) (g2ts : Nat → Int32) (g3nr : Int32) (g3pf : Int32) (g3ks : Nat → Int32) (g3vs : Nat → Int32) (g3wg : Nat → Int32) (g3ts : Nat → Int32), f_X1_remember (nI x) (nI z) h0nr h0pf h0ks h0vs h0wg h0ts h1nr h1pf h1ks h1vs h1wg h1ts h2nr h2pf h2ks h2vs h2wg h2ts h3nr h3pf h3ks h3vs h3wg h3ts onr opf oks ovs owg ots = some (nI ((x + 1) % 4), nI (nz' z), g0nr, g0pf, g0ks, g0vs, g0wg, g0ts, g1nr, g1pf, g1ks, g1vs, g1wg, g1ts, g2nr, g2pf, g2ks, g2vs, g2wg, g2ts, g3nr, g3pf, g3ks, g3vs, g3wg, g3ts) ∧ (∀ j, j < 20 → cks j = oks j ∧ cvs j = ovs j ∧ cwg j = owg j ∧ cts j = ots j) ∧ ∀ i, i < 4 → sel4 (g0nr, g0pf, g0ks, g0vs, g0wg, g0ts) (g1nr, g1pf, g1ks, g1vs, g1wg, g1ts) (g2nr, g2pf, g2ks, g2vs, g2wg, g2ts) (g3nr, g3pf, g3ks, g3vs, g3wg, g3ts) i = if i = x then (onr, opf, cks, cvs, cwg, cts) else sel4 (h0nr, h0pf, h0ks, h0vs, h0wg, h0ts) (h1nr, h1pf, h1ks, h1vs, h1wg, h1ts) (h2nr, h2pf, h2ks, h2vs, h2wg, h2ts) (h3nr, h3pf, h3ks, h3vs, h3wg, h3ts) i := by
  have h1 : (nI x + 1) - (nI x + 1) / 4 * 4 = nI ((x + 1) % 4) := by rw [nI_1, show (4 : Int32) = nI 4 from rfl, nI_mod (by omega) (by omega)]
  have h2 : (if 4 < (nI z + 1) then (4 : Int32) else (nI z + 1)) = nI (nz' z) := by
    unfold nz'
    rw [nI_1, show (4 : Int32) = nI 4 from rfl]
    by_cases e : z = 4
    · subst e; rw [if_pos (nI_lt (by omega) (by omega)), if_pos rfl]
    · rw [if_neg (nI_nlt (by omega) (by omega)), if_neg e]
  unfold f_X1_remember
  rw [h1, h2]
  by_cases e0 : x = 0
  · subst e0
    rw [if_pos (show nI 0 = 0 from rfl)]
    unfold f_X1_slotAt_0
    rw [bs, c_copyFrom _ _ _ _ hb, bs]
    refine ⟨(va_cpy oks h0ks 0 0 20), (va_cpy ovs h0vs 0 0 20), (va_cpy owg h0wg 0 0 20), (va_cpy ots h0ts 0 0 20), onr, opf, (va_cpy oks h0ks 0 0 20), (va_cpy ovs h0vs 0 0 20), (va_cpy owg h0wg 0 0 20), (va_cpy ots h0ts 0 0 20), h1nr, h1pf, h1ks, h1vs, h1wg, h1ts, h2nr, h2pf, h2ks, h2vs, h2wg, h2ts, h3nr, h3pf, h3ks, h3vs, h3wg, h3ts, rfl, fun j hj => ⟨cpy20 _ _ hj, cpy20 _ _ hj, cpy20 _ _ hj, cpy20 _ _ hj⟩, fun i hi => ?_⟩
    unfold sel4
    by_cases q0 : i = 0
    · simp [q0]
    · by_cases q1 : i = 1
      · simp [q1]
      · by_cases q2 : i = 2
        · simp [q2]
        · have q3 : i = 3 := by omega
          simp [q3]
  by_cases e1 : x = 1
  · subst e1
    rw [if_neg (by decide), if_pos (show nI 1 = 1 from rfl)]
    unfold f_X1_slotAt_1
    rw [bs, c_copyFrom _ _ _ _ hb, bs]
    refine ⟨(va_cpy oks h1ks 0 0 20), (va_cpy ovs h1vs 0 0 20), (va_cpy owg h1wg 0 0 20), (va_cpy ots h1ts 0 0 20), h0nr, h0pf, h0ks, h0vs, h0wg, h0ts, onr, opf, (va_cpy oks h1ks 0 0 20), (va_cpy ovs h1vs 0 0 20), (va_cpy owg h1wg 0 0 20), (va_cpy ots h1ts 0 0 20), h2nr, h2pf, h2ks, h2vs, h2wg, h2ts, h3nr, h3pf, h3ks, h3vs, h3wg, h3ts, rfl, fun j hj => ⟨cpy20 _ _ hj, cpy20 _ _ hj, cpy20 _ _ hj, cpy20 _ _ hj⟩, fun i hi => ?_⟩
    unfold sel4
    by_cases q0 : i = 0
    · simp [q0]
    · by_cases q1 : i = 1
      · simp [q1]
      · by_cases q2 : i = 2
        · simp [q2]
        · have q3 : i = 3 := by omega
          simp [q3]
  by_cases e2 : x = 2
  · subst e2
    rw [if_neg (by decide), if_neg (by decide), if_pos (show nI 2 = 2 from rfl)]
    unfold f_X1_slotAt_2
    rw [bs, c_copyFrom _ _ _ _ hb, bs]
    refine ⟨(va_cpy oks h2ks 0 0 20), (va_cpy ovs h2vs 0 0 20), (va_cpy owg h2wg 0 0 20), (va_cpy ots h2ts 0 0 20), h0nr, h0pf, h0ks, h0vs, h0wg, h0ts, h1nr, h1pf, h1ks, h1vs, h1wg, h1ts, onr, opf, (va_cpy oks h2ks 0 0 20), (va_cpy ovs h2vs 0 0 20), (va_cpy owg h2wg 0 0 20), (va_cpy ots h2ts 0 0 20), h3nr, h3pf, h3ks, h3vs, h3wg, h3ts, rfl, fun j hj => ⟨cpy20 _ _ hj, cpy20 _ _ hj, cpy20 _ _ hj, cpy20 _ _ hj⟩, fun i hi => ?_⟩
    unfold sel4
    by_cases q0 : i = 0
    · simp [q0]
    · by_cases q1 : i = 1
      · simp [q1]
      · by_cases q2 : i = 2
        · simp [q2]
        · have q3 : i = 3 := by omega
          simp [q3]
  by_cases e3 : x = 3
  · subst e3
    rw [if_neg (by decide), if_neg (by decide), if_neg (by decide), if_pos (show nI 3 = 3 from rfl)]
    unfold f_X1_slotAt_3
    rw [bs, c_copyFrom _ _ _ _ hb, bs]
    refine ⟨(va_cpy oks h3ks 0 0 20), (va_cpy ovs h3vs 0 0 20), (va_cpy owg h3wg 0 0 20), (va_cpy ots h3ts 0 0 20), h0nr, h0pf, h0ks, h0vs, h0wg, h0ts, h1nr, h1pf, h1ks, h1vs, h1wg, h1ts, h2nr, h2pf, h2ks, h2vs, h2wg, h2ts, onr, opf, (va_cpy oks h3ks 0 0 20), (va_cpy ovs h3vs 0 0 20), (va_cpy owg h3wg 0 0 20), (va_cpy ots h3ts 0 0 20), rfl, fun j hj => ⟨cpy20 _ _ hj, cpy20 _ _ hj, cpy20 _ _ hj, cpy20 _ _ hj⟩, fun i hi => ?_⟩
    unfold sel4
    by_cases q0 : i = 0
    · simp [q0]
    · by_cases q1 : i = 1
      · simp [q1]
      · by_cases q2 : i = 2
        · simp [q2]
        · have q3 : i = 3 := by omega
          simp [q3]
  omega
theorem c_takeBack {x z : Nat} (hx : x < 4) (hz : 0 < z) (hz4 : z ≤ 4) (h0nr : Int32) (h0pf : Int32) (h0ks : Nat → Int32) (h0vs : Nat → Int32) (h0wg : Nat → Int32) (h0ts : Nat → Int32) (h1nr : Int32) (h1pf : Int32) (h1ks : Nat → Int32) (h1vs : Nat → Int32) (h1wg : Nat → Int32) (h1ts : Nat → Int32) (h2nr : Int32) (h2pf : Int32) (h2ks : Nat → Int32) (h2vs : Nat → Int32) (h2wg : Nat → Int32) (h2ts : Nat → Int32) (h3nr : Int32) (h3pf : Int32) (h3ks : Nat → Int32) (h3vs : Nat → Int32) (h3wg : Nat → Int32) (h3ts : Nat → Int32) (onr : Int32) (opf : Int32) (oks : Nat → Int32) (ovs : Nat → Int32) (owg : Nat → Int32) (ots : Nat → Int32) (hb : ∀ i, i < 4 → i = (x + 3) % 4 → isB (sel4 (h0nr, h0pf, h0ks, h0vs, h0wg, h0ts) (h1nr, h1pf, h1ks, h1vs, h1wg, h1ts) (h2nr, h2pf, h2ks, h2vs, h2wg, h2ts) (h3nr, h3pf, h3ks, h3vs, h3wg, h3ts) i).2.1) :
    ∃ (cks cvs cwg cts : Nat → Int32), f_X1_takeBack (nI x) (nI z) h0nr h0pf h0ks h0vs h0wg h0ts h1nr h1pf h1ks h1vs h1wg h1ts h2nr h2pf h2ks h2vs h2wg h2ts h3nr h3pf h3ks h3vs h3wg h3ts onr opf oks ovs owg ots = some (1, nI ((x + 3) % 4), nI (z - 1), (sel4 (h0nr, h0pf, h0ks, h0vs, h0wg, h0ts) (h1nr, h1pf, h1ks, h1vs, h1wg, h1ts) (h2nr, h2pf, h2ks, h2vs, h2wg, h2ts) (h3nr, h3pf, h3ks, h3vs, h3wg, h3ts) ((x + 3) % 4)).1, (sel4 (h0nr, h0pf, h0ks, h0vs, h0wg, h0ts) (h1nr, h1pf, h1ks, h1vs, h1wg, h1ts) (h2nr, h2pf, h2ks, h2vs, h2wg, h2ts) (h3nr, h3pf, h3ks, h3vs, h3wg, h3ts) ((x + 3) % 4)).2.1, cks, cvs, cwg, cts) ∧ ∀ j, j < 20 → cks j = (sel4 (h0nr, h0pf, h0ks, h0vs, h0wg, h0ts) (h1nr, h1pf, h1ks, h1vs, h1wg, h1ts) (h2nr, h2pf, h2ks, h2vs, h2wg, h2ts) (h3nr, h3pf, h3ks, h3vs, h3wg, h3ts) ((x + 3) % 4)).2.2.1 j ∧ cvs j = (sel4 (h0nr, h0pf, h0ks, h0vs, h0wg, h0ts) (h1nr, h1pf, h1ks, h1vs, h1wg, h1ts) (h2nr, h2pf, h2ks, h2vs, h2wg, h2ts) (h3nr, h3pf, h3ks, h3vs, h3wg, h3ts) ((x + 3) % 4)).2.2.2.1 j ∧ cwg j = (sel4 (h0nr, h0pf, h0ks, h0vs, h0wg, h0ts) (h1nr, h1pf, h1ks, h1vs, h1wg, h1ts) (h2nr, h2pf, h2ks, h2vs, h2wg, h2ts) (h3nr, h3pf, h3ks, h3vs, h3wg, h3ts) ((x + 3) % 4)).2.2.2.2.1 j ∧ cts j = (sel4 (h0nr, h0pf, h0ks, h0vs, h0wg, h0ts) (h1nr, h1pf, h1ks, h1vs, h1wg, h1ts) (h2nr, h2pf, h2ks, h2vs, h2wg, h2ts) (h3nr, h3pf, h3ks, h3vs, h3wg, h3ts) ((x + 3) % 4)).2.2.2.2.2 j := by
  have h1 : ((nI x + 4) - 1) - ((nI x + 4) - 1) / 4 * 4 = nI ((x + 3) % 4) := by
    rw [show (4 : Int32) = nI 4 from rfl, nI_add, show (1 : Int32) = nI 1 from rfl, nI_subO (by omega), nI_mod (by omega) (by omega)]
    exact nI_ext (by omega)
  have h2 : ¬ nI z < 1 := nI_nlt (b := 1) hz (by omega)
  have h3 : nI z - 1 = nI (z - 1) := nI_subO hz
  unfold f_X1_takeBack
  rw [h1, h3]
  by_cases e0 : (x + 3) % 4 = 0
  · have hb0 : isB h0pf := hb 0 (by omega) e0.symm
    rw [e0]
    rw [if_pos (show nI 0 = 0 from rfl)]
    unfold f_X1_slotAt_0
    rw [bs, if_neg h2, c_copyFrom _ _ _ _ hb0, bs]
    exact ⟨_, _, _, _, rfl, fun j hj => ⟨cpy20 _ _ hj, cpy20 _ _ hj, cpy20 _ _ hj, cpy20 _ _ hj⟩⟩
  by_cases e1 : (x + 3) % 4 = 1
  · have hb1 : isB h1pf := hb 1 (by omega) e1.symm
    rw [e1]
    rw [if_neg (by decide), if_pos (show nI 1 = 1 from rfl)]
    unfold f_X1_slotAt_1
    rw [bs, if_neg h2, c_copyFrom _ _ _ _ hb1, bs]
    exact ⟨_, _, _, _, rfl, fun j hj => ⟨cpy20 _ _ hj, cpy20 _ _ hj, cpy20 _ _ hj, cpy20 _ _ hj⟩⟩
  by_cases e2 : (x + 3) % 4 = 2
  · have hb2 : isB h2pf := hb 2 (by omega) e2.symm
    rw [e2]
    rw [if_neg (by decide), if_neg (by decide), if_pos (show nI 2 = 2 from rfl)]
    unfold f_X1_slotAt_2
    rw [bs, if_neg h2, c_copyFrom _ _ _ _ hb2, bs]
    exact ⟨_, _, _, _, rfl, fun j hj => ⟨cpy20 _ _ hj, cpy20 _ _ hj, cpy20 _ _ hj, cpy20 _ _ hj⟩⟩
  by_cases e3 : (x + 3) % 4 = 3
  · have hb3 : isB h3pf := hb 3 (by omega) e3.symm
    rw [e3]
    rw [if_neg (by decide), if_neg (by decide), if_neg (by decide), if_pos (show nI 3 = 3 from rfl)]
    unfold f_X1_slotAt_3
    rw [bs, if_neg h2, c_copyFrom _ _ _ _ hb3, bs]
    exact ⟨_, _, _, _, rfl, fun j hj => ⟨cpy20 _ _ hj, cpy20 _ _ hj, cpy20 _ _ hj, cpy20 _ _ hj⟩⟩
  omega
theorem c_takeNone {x : Nat} (hx : x < 4) (h0nr : Int32) (h0pf : Int32) (h0ks : Nat → Int32) (h0vs : Nat → Int32) (h0wg : Nat → Int32) (h0ts : Nat → Int32) (h1nr : Int32) (h1pf : Int32) (h1ks : Nat → Int32) (h1vs : Nat → Int32) (h1wg : Nat → Int32) (h1ts : Nat → Int32) (h2nr : Int32) (h2pf : Int32) (h2ks : Nat → Int32) (h2vs : Nat → Int32) (h2wg : Nat → Int32) (h2ts : Nat → Int32) (h3nr : Int32) (h3pf : Int32) (h3ks : Nat → Int32) (h3vs : Nat → Int32) (h3wg : Nat → Int32) (h3ts : Nat → Int32) (onr : Int32) (opf : Int32) (oks : Nat → Int32) (ovs : Nat → Int32) (owg : Nat → Int32) (ots : Nat → Int32) : f_X1_takeBack (nI x) (nI 0) h0nr h0pf h0ks h0vs h0wg h0ts h1nr h1pf h1ks h1vs h1wg h1ts h2nr h2pf h2ks h2vs h2wg h2ts h3nr h3pf h3ks h3vs h3wg h3ts onr opf oks ovs owg ots = some (0, nI x, nI 0, onr, opf, oks, ovs, owg, ots) := by
  have h1 : ((nI x + 4) - 1) - ((nI x + 4) - 1) / 4 * 4 = nI ((x + 3) % 4) := by
    rw [show (4 : Int32) = nI 4 from rfl, nI_add, show (1 : Int32) = nI 1 from rfl, nI_subO (by omega), nI_mod (by omega) (by omega)]
    exact nI_ext (by omega)
  have h2 : nI 0 < 1 := nI_lt (b := 1) (by omega) (by omega)
  unfold f_X1_takeBack
  rw [h1]
  by_cases e0 : (x + 3) % 4 = 0
  · rw [e0]
    rw [if_pos (show nI 0 = 0 from rfl)]
    unfold f_X1_slotAt_0
    rw [bs, if_pos h2]
  by_cases e1 : (x + 3) % 4 = 1
  · rw [e1]
    rw [if_neg (by decide), if_pos (show nI 1 = 1 from rfl)]
    unfold f_X1_slotAt_1
    rw [bs, if_pos h2]
  by_cases e2 : (x + 3) % 4 = 2
  · rw [e2]
    rw [if_neg (by decide), if_neg (by decide), if_pos (show nI 2 = 2 from rfl)]
    unfold f_X1_slotAt_2
    rw [bs, if_pos h2]
  by_cases e3 : (x + 3) % 4 = 3
  · rw [e3]
    rw [if_neg (by decide), if_neg (by decide), if_neg (by decide), if_pos (show nI 3 = 3 from rfl)]
    unfold f_X1_slotAt_3
    rw [bs, if_pos h2]
  omega
theorem HR_push {x z : Nat} {a b c d a' b' c' d' cur : TB} {hi hi' sv : Nat → Int32} (hx : x < 4) (hz : z ≤ 4)
    (h : ∀ i, i < z → RelU (sel4 a b c d ((x + 4 - z + i) % 4)) (fun k => hi (82 * i + k)))
    (hs : ∀ i, i < 4 → sel4 a' b' c' d' i = if i = x then cur else sel4 a b c d i)
    (hh : ∀ i, i < nz' z → ∀ k, k < 82 → hi' (82 * i + k) = if i + 1 = nz' z then sv k else hi (82 * (if z = 4 then i + 1 else i) + k))
    (hc : RelU cur sv) : HR (nI ((x + 1) % 4)) (nI (nz' z)) (nI (nz' z)) a' b' c' d' hi' := by
  have hz' : nz' z ≤ 4 := by unfold nz'; split <;> omega
  refine ⟨(x + 1) % 4, nz' z, by omega, hz', rfl, rfl, rfl, fun i hi2 => ?_⟩
  rw [hs _ (by omega)]
  have e2 : ∀ k, k < 82 → hi' (82 * i + k) = if i + 1 = nz' z then sv k else hi (82 * (if z = 4 then i + 1 else i) + k) := fun k hk => hh i hi2 k hk
  by_cases q : i + 1 = nz' z
  · have hxe : ((x + 1) % 4 + 4 - nz' z + i) % 4 = x := by omega
    rw [if_pos hxe]
    exact RelT_congr hc (fun _ _ => ⟨rfl, rfl, rfl, rfl⟩) (fun k hk => by rw [e2 k hk, if_pos q])
  · by_cases e : z = 4
    · subst e
      have hz4 : nz' 4 = 4 := rfl
      rw [hz4] at q hi2 ⊢
      have hxe : ((x + 1) % 4 + 4 - 4 + i) % 4 = (x + 4 - 4 + (i + 1)) % 4 := by omega
      have hxn : ¬ ((x + 1) % 4 + 4 - 4 + i) % 4 = x := by omega
      rw [if_neg hxn, hxe]
      exact RelT_congr (h (i + 1) (by omega)) (fun _ _ => ⟨rfl, rfl, rfl, rfl⟩) (fun k hk => by rw [e2 k hk, if_neg (by rw [hz4]; exact q), if_pos rfl])
    · have hz1 : nz' z = z + 1 := by unfold nz'; rw [if_neg e]
      rw [hz1] at q hi2 hz' ⊢
      have hxe : ((x + 1) % 4 + 4 - (z + 1) + i) % 4 = (x + 4 - z + i) % 4 := by omega
      have hxn : ¬ ((x + 1) % 4 + 4 - (z + 1) + i) % 4 = x := by omega
      rw [if_neg hxn, hxe]
      exact RelT_congr (h i (by omega)) (fun _ _ => ⟨rfl, rfl, rfl, rfl⟩) (fun k hk => by rw [e2 k hk, if_neg (by rw [hz1]; exact q), if_neg e])
/-- one act: the state before it goes into both histories -/
theorem act_both {nx nz hlg : Int32} {h0nr : Int32} {h0pf : Int32} {h0ks : Nat → Int32} {h0vs : Nat → Int32} {h0wg : Nat → Int32} {h0ts : Nat → Int32} {h1nr : Int32} {h1pf : Int32} {h1ks : Nat → Int32} {h1vs : Nat → Int32} {h1wg : Nat → Int32} {h1ts : Nat → Int32} {h2nr : Int32} {h2pf : Int32} {h2ks : Nat → Int32} {h2vs : Nat → Int32} {h2wg : Nat → Int32} {h2ts : Nat → Int32} {h3nr : Int32} {h3pf : Int32} {h3ks : Nat → Int32} {h3vs : Nat → Int32} {h3wg : Nat → Int32} {h3ts : Nat → Int32} {hi : Nat → Int32} (h : HR nx nz hlg (h0nr, h0pf, h0ks, h0vs, h0wg, h0ts) (h1nr, h1pf, h1ks, h1vs, h1wg, h1ts) (h2nr, h2pf, h2ks, h2vs, h2wg, h2ts) (h3nr, h3pf, h3ks, h3vs, h3wg, h3ts) hi) {onr : Int32} {opf : Int32} {oks : Nat → Int32} {ovs : Nat → Int32} {owg : Nat → Int32} {ots : Nat → Int32} {al : Nat → Int32} (hc : RelT onr opf oks ovs owg ots al) (sv : Nat → Int32) :
    ∃ (nx2 nz2 : Int32) (g0nr : Int32) (g0pf : Int32) (g0ks : Nat → Int32) (g0vs : Nat → Int32) (g0wg : Nat → Int32) (g0ts : Nat → Int32) (g1nr : Int32) (g1pf : Int32) (g1ks : Nat → Int32) (g1vs : Nat → Int32) (g1wg : Nat → Int32) (g1ts : Nat → Int32) (g2nr : Int32) (g2pf : Int32) (g2ks : Nat → Int32) (g2vs : Nat → Int32) (g2wg : Nat → Int32) (g2ts : Nat → Int32) (g3nr : Int32) (g3pf : Int32) (g3ks : Nat → Int32) (g3vs : Nat → Int32) (g3wg : Nat → Int32) (g3ts : Nat → Int32) (sv2 : Nat → Int32), f_X1_remember nx nz h0nr h0pf h0ks h0vs h0wg h0ts h1nr h1pf h1ks h1vs h1wg h1ts h2nr h2pf h2ks h2vs h2wg h2ts h3nr h3pf h3ks h3vs h3wg h3ts onr opf oks ovs owg ots = some (nx2, nz2, g0nr, g0pf, g0ks, g0vs, g0wg, g0ts, g1nr, g1pf, g1ks, g1vs, g1wg, g1ts, g2nr, g2pf, g2ks, g2vs, g2wg, g2ts, g3nr, g3pf, g3ks, g3vs, g3wg, g3ts) ∧ f_X6_remember al sv = some sv2 ∧ (∀ k, k < 82 → sv2 k = al k) ∧ ∀ p : Int32, ∃ hi2, f_X6_acted hlg sv2 hi p = some (p, nz2, hi2) ∧ HR nx2 nz2 nz2 (g0nr, g0pf, g0ks, g0vs, g0wg, g0ts) (g1nr, g1pf, g1ks, g1vs, g1wg, g1ts) (g2nr, g2pf, g2ks, g2vs, g2wg, g2ts) (g3nr, g3pf, g3ks, g3vs, g3wg, g3ts) hi2 := by
  obtain ⟨x, z, hx, hz, rfl, rfl, rfl, hr⟩ := h
  obtain ⟨sv2, m1, m2⟩ := m_remember al sv
  obtain ⟨cks, cvs, cwg, cts, g0nr, g0pf, g0ks, g0vs, g0wg, g0ts, g1nr, g1pf, g1ks, g1vs, g1wg, g1ts, g2nr, g2pf, g2ks, g2vs, g2wg, g2ts, g3nr, g3pf, g3ks, g3vs, g3wg, g3ts, r1, r2, r3⟩ := c_remember hx hz h0nr h0pf h0ks h0vs h0wg h0ts h1nr h1pf h1ks h1vs h1wg h1ts h2nr h2pf h2ks h2vs h2wg h2ts h3nr h3pf h3ks h3vs h3wg h3ts onr opf oks ovs owg ots (RelT_isB hc)
  refine ⟨_, _, g0nr, g0pf, g0ks, g0vs, g0wg, g0ts, g1nr, g1pf, g1ks, g1vs, g1wg, g1ts, g2nr, g2pf, g2ks, g2vs, g2wg, g2ts, g3nr, g3pf, g3ks, g3vs, g3wg, g3ts, sv2, r1, m1, m2, fun p => ?_⟩
  obtain ⟨hi2, a1, a2⟩ := m_acted hi sv2 p hz
  refine ⟨hi2, a1, HR_push (cur := (onr, opf, cks, cvs, cwg, cts)) hx hz hr r3 a2 ?_⟩
  exact RelT_congr hc r2 m2
theorem m_blockAl (hi al : Nat → Int32) {z : Nat} (hz : z < 4) : ∃ al', iter fuel (b_X6_undo_1 (nI (z + 1)) hi) (0, al) = some (nI z, nI z, al') ∧ ∀ k, k < 82 → al' k = hi (82 * z + k) := by
  have hp : nI (z + 1) - 1 = nI z := nI_pred z
  obtain ⟨r, g1, al', g2, g3⟩ := iter_inv (b_X6_undo_1 (nI (z + 1)) hi) (fun i s => s.1 = nI i ∧ ∀ k, k < i → s.2 k = hi (82 * z + k)) 82 (fun r => ∃ al', r = (nI z, nI z, al') ∧ ∀ k, k < 82 → al' k = hi (82 * z + k)) (by omega) (by
    rintro i ⟨v, s1⟩ hi' ⟨e1, e2⟩
    dsimp only at e1 e2
    subst e1
    simp only [b_X6_undo_1]
    rw [hp, i82, show (82 : Int32) = nI 82 from rfl, if_neg (nI_ge hi' (by omega)), if_pos (nI_in (by omega) (by omega)), if_pos (nI_in hi' (by omega)), nI_clamp (by omega), nI_clamp (by omega), nI_1]
    refine ⟨_, rfl, rfl, fun k hk => ?_⟩
    show upd s1 i _ k = _
    unfold upd
    by_cases e : k = i
    · rw [if_pos e, e]
    · rw [if_neg e]; exact e2 k (by omega)) (by
    rintro ⟨v, s1⟩ ⟨e1, e2⟩
    dsimp only at e1 e2
    subst e1
    simp only [b_X6_undo_1]
    rw [hp, show (82 : Int32) = nI 82 from rfl, if_pos (nI_le (Nat.le_refl _) (by omega))]
    exact ⟨_, rfl, _, rfl, e2⟩) (s0 := (0, al)) ⟨rfl, fun k hk => by omega⟩
  exact ⟨al', by rw [g1, g2], g3⟩
theorem m_keep (al sn : Nat → Int32) : ∃ sn', f_X6_keep al sn = some (al 0, 1, sn') ∧ ∀ k, k < 82 → sn' k = al k := by
  unfold f_X6_keep
  obtain ⟨r, g1, al', g2, g3⟩ := iter_inv (b_X6_keep_1 al) (fun i s => s.1 = nI i ∧ ∀ k, k < i → s.2 k = al k) 82 (fun r => ∃ al', r = (al 0, 1, al') ∧ ∀ k, k < 82 → al' k = al k) (by omega) (by
    rintro i ⟨v, s1⟩ hi' ⟨e1, e2⟩
    dsimp only at e1 e2
    subst e1
    simp only [b_X6_keep_1]
    rw [show (82 : Int32) = nI 82 from rfl, if_neg (nI_ge hi' (by omega)), if_pos (nI_in hi' (by omega)), if_pos (nI_in hi' (by omega)), nI_clamp (by omega), nI_1]
    refine ⟨_, rfl, rfl, fun k hk => ?_⟩
    show upd s1 i _ k = _
    unfold upd
    by_cases e : k = i
    · rw [if_pos e, e]
    · rw [if_neg e]; exact e2 k (by omega)) (by
    rintro ⟨v, s1⟩ ⟨e1, e2⟩
    dsimp only at e1 e2
    subst e1
    simp only [b_X6_keep_1]
    rw [show (82 : Int32) = nI 82 from rfl, if_pos (nI_le (Nat.le_refl _) (by omega))]
    exact ⟨_, rfl, _, rfl, e2⟩) (s0 := (0, sn)) ⟨rfl, fun k hk => by omega⟩
  exact ⟨al', by rw [g1, g2], g3⟩
theorem m_restoreL (hlg : Int32) (hi sn sv al : Nat → Int32) : ∃ al', iter fuel (b_X6_restore_1 hlg hi sn sv) (0, al) = Option.bind (f_X6_acted hlg sv hi (al' 0)) (fun (r_8, hlg_9, hi_10) => some (r_8, hlg_9, al', sv, hi_10)) ∧ ∀ k, k < 82 → al' k = sn k := by
  have key : ∀ d i s f, i + d = 82 → d < f → (s.1 = nI i ∧ ∀ k, k < i → s.2 k = sn k) → ∃ al', iter f (b_X6_restore_1 hlg hi sn sv) s = Option.bind (f_X6_acted hlg sv hi (al' 0)) (fun (r_8, hlg_9, hi_10) => some (r_8, hlg_9, al', sv, hi_10)) ∧ ∀ k, k < 82 → al' k = sn k := by
    intro d
    induction d with
    | zero =>
      rintro i ⟨v, s1⟩ f hi' hf ⟨e1, e2⟩
      obtain ⟨f, rfl⟩ : ∃ g, f = g + 1 := ⟨f - 1, by omega⟩
      have : i = 82 := by omega
      subst this
      dsimp only at e1 e2
      subst e1
      refine ⟨s1, ?_, e2⟩
      unfold iter
      simp only [b_X6_restore_1]
      rw [show (82 : Int32) = nI 82 from rfl, if_pos (nI_le (Nat.le_refl _) (by omega))]
      cases f_X6_acted hlg sv hi (s1 0) with
      | none => rfl
      | some o => rfl
    | succ d ih =>
      rintro i ⟨v, s1⟩ f hi' hf ⟨e1, e2⟩
      obtain ⟨f, rfl⟩ : ∃ g, f = g + 1 := ⟨f - 1, by omega⟩
      dsimp only at e1 e2
      subst e1
      unfold iter
      simp only [b_X6_restore_1]
      rw [show (82 : Int32) = nI 82 from rfl, if_neg (nI_ge (by omega) (by omega)), if_pos (nI_in (by omega) (by omega)), if_pos (nI_in (by omega) (by omega)), nI_clamp (by omega), nI_1]
      refine ih (i + 1) (nI (i + 1), upd s1 i (sn i)) f (by omega) (by omega) ⟨rfl, fun k hk => ?_⟩
      show upd s1 i _ k = _
      unfold upd
      by_cases e : k = i
      · rw [if_pos e, e]
      · rw [if_neg e]; exact e2 k (by omega)
  exact key 82 0 (0, al) fuel (by omega) (by unfold fuel; omega) ⟨rfl, fun k hk => by omega⟩
