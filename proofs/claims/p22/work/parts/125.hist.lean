/-! states kept, both sides: copies, the history's ring and row, the snapshot -/
abbrev TB : Type := Int32 × Int32 × (Nat → Int32) × (Nat → Int32) × (Nat → Int32) × (Nat → Int32)
theorem cpy20 (f g : Nat → Int32) {j : Nat} (h : j < 20) : va_cpy f g 0 0 20 j = f j := by
  unfold va_cpy
  rw [if_pos (by omega)]
  exact congrArg _ (by omega)
theorem isB_of {pf : Int32} {b : Bool} (h : pf = bI b) : isB pf := by rw [h]; exact isB_bI b
theorem c_copyFrom (ks vs wg ts : Nat → Int32) {onr opf : Int32} {oks ovs owg ots : Nat → Int32} (hb : isB opf) : f_X3_copyFrom ks vs wg ts onr opf oks ovs owg ots = some (onr, opf, va_cpy oks ks 0 0 20, va_cpy ovs vs 0 0 20, va_cpy owg wg 0 0 20, va_cpy ots ts 0 0 20) := by
  unfold f_X3_copyFrom f_X5_copy
  rw [bs, bs, bs, bs, if_pos hb]
theorem i82 (z i : Nat) : (82 * nI z) + nI i = nI (82 * z + i) := by rw [show (82 : Int32) = nI 82 from rfl, nI_mulO, nI_add]
/-- block z of the row of states becomes sv -/
def blk (hi : Nat → Int32) (sv : Nat → Int32) (z m : Nat) : Nat → Int32 := fun k => if 82 * z ≤ k ∧ k < 82 * z + m then sv (k - 82 * z) else hi k
theorem blk_step (hi sv : Nat → Int32) (z i : Nat) : upd (blk hi sv z i) (82 * z + i) (sv i) = blk hi sv z (i + 1) := by
  funext k
  unfold upd blk
  by_cases e : k = 82 * z + i
  · subst e
    rw [if_pos rfl, if_pos (by omega)]
    exact congrArg _ (by omega)
  · rw [if_neg e]
    by_cases q : 82 * z ≤ k ∧ k < 82 * z + i
    · rw [if_pos q, if_pos (by omega)]
    · rw [if_neg q, if_neg (by omega)]
theorem blk_zero (hi sv : Nat → Int32) (z : Nat) : blk hi sv z 0 = hi := by
  funext k
  unfold blk
  rw [if_neg (by omega)]
def shh (u : Nat → Int32) (i : Nat) : Nat → Int32 := fun j => if j < i then u (j + 82) else u j
theorem shh_step (u : Nat → Int32) (i : Nat) : upd (shh u i) i (shh u i (i + 82)) = shh u (i + 1) := by
  funext j
  unfold upd shh
  rw [if_neg (show ¬ i + 82 < i by omega)]
  by_cases e : j = i
  · subst e
    rw [if_pos rfl, if_pos (by omega)]
  · rw [if_neg e]
    by_cases q : j < i
    · rw [if_pos q, if_pos (by omega)]
    · rw [if_neg q, if_neg (by omega)]
def nz' (z : Nat) : Nat := if z = 4 then 4 else z + 1
def sel4 (a b c d : TB) (i : Nat) : TB := if i = 0 then a else if i = 1 then b else if i = 2 then c else d
theorem c_remember {x z : Nat} (hx : x < 4) (hz : z ≤ 4) (h0nr : Int32) (h0pf : Int32) (h0ks : Nat → Int32) (h0vs : Nat → Int32) (h0wg : Nat → Int32) (h0ts : Nat → Int32) (h1nr : Int32) (h1pf : Int32) (h1ks : Nat → Int32) (h1vs : Nat → Int32) (h1wg : Nat → Int32) (h1ts : Nat → Int32) (h2nr : Int32) (h2pf : Int32) (h2ks : Nat → Int32) (h2vs : Nat → Int32) (h2wg : Nat → Int32) (h2ts : Nat → Int32) (h3nr : Int32) (h3pf : Int32) (h3ks : Nat → Int32) (h3vs : Nat → Int32) (h3wg : Nat → Int32) (h3ts : Nat → Int32) (onr : Int32) (opf : Int32) (oks : Nat → Int32) (ovs : Nat → Int32) (owg : Nat → Int32) (ots : Nat → Int32) (hb : isB opf) :
    ∃ (cks cvs cwg cts : Nat → Int32) (g0nr : Int32) (g0pf : Int32) (g0ks : Nat → Int32) (g0vs : Nat → Int32) (g0wg : Nat → Int32) (g0ts : Nat → Int32) (g1nr : Int32) (g1pf : Int32) (g1ks : Nat → Int32) (g1vs : Nat → Int32) (g1wg : Nat → Int32) (g1ts : Nat → Int32) (g2nr : Int32) (g2pf : Int32) (g2ks : Nat → Int32) (g2vs : Nat → Int32) (g2wg : Nat → Int32) (g2ts : Nat → Int32) (g3nr : Int32) (g3pf : Int32) (g3ks : Nat → Int32) (g3vs : Nat → Int32) (g3wg : Nat → Int32) (g3ts : Nat → Int32), f_X1_remember (nI x) (nI z) h0nr h0pf h0ks h0vs h0wg h0ts h1nr h1pf h1ks h1vs h1wg h1ts h2nr h2pf h2ks h2vs h2wg h2ts h3nr h3pf h3ks h3vs h3wg h3ts onr opf oks ovs owg ots = some (nI ((x + 1) % 4), nI (nz' z), g0nr, g0pf, g0ks, g0vs, g0wg, g0ts, g1nr, g1pf, g1ks, g1vs, g1wg, g1ts, g2nr, g2pf, g2ks, g2vs, g2wg, g2ts, g3nr, g3pf, g3ks, g3vs, g3wg, g3ts) ∧ (∀ j, j < 20 → cks j = oks j ∧ cvs j = ovs j ∧ cwg j = owg j ∧ cts j = ots j) ∧ ∀ i, i < 4 → sel4 (g0nr, g0pf, g0ks, g0vs, g0wg, g0ts) (g1nr, g1pf, g1ks, g1vs, g1wg, g1ts) (g2nr, g2pf, g2ks, g2vs, g2wg, g2ts) (g3nr, g3pf, g3ks, g3vs, g3wg, g3ts) i = if i = x then (onr, opf, cks, cvs, cwg, cts) else sel4 (h0nr, h0pf, h0ks, h0vs, h0wg, h0ts) (h1nr, h1pf, h1ks, h1vs, h1wg, h1ts) (h2nr, h2pf, h2ks, h2vs, h2wg, h2ts) (h3nr, h3pf, h3ks, h3vs, h3wg, h3ts) i := by
  have h1 : (nI x + 1) - (nI x + 1) / 4 * 4 = nI ((x + 1) % 4) := by rw [nI_1, show (4 : Int32) = nI 4 from rfl, nI_mod (by omega) (by omega)]
  have h2 : (if 4 < (nI z + 1) then (4 : Int32) else (nI z + 1)) = nI (nz' z) := by
    unfold nz'
    rw [nI_1, show (4 : Int32) = nI 4 from rfl]
    by_cases e : z = 4
    · subst e; rw [if_pos (nI_lt (by omega) (by omega)), if_pos rfl]
    · rw [if_neg (nI_nlt (by omega) (by omega)), if_neg e]
  unfold f_X1_remember
  rw [h1, h2]
  by_cases e0 : x = 0
  · subst e0
    rw [if_pos (show nI 0 = 0 from rfl)]
    unfold f_X1_slotAt_0
    rw [bs, c_copyFrom _ _ _ _ hb, bs]
    refine ⟨(va_cpy oks h0ks 0 0 20), (va_cpy ovs h0vs 0 0 20), (va_cpy owg h0wg 0 0 20), (va_cpy ots h0ts 0 0 20), onr, opf, (va_cpy oks h0ks 0 0 20), (va_cpy ovs h0vs 0 0 20), (va_cpy owg h0wg 0 0 20), (va_cpy ots h0ts 0 0 20), h1nr, h1pf, h1ks, h1vs, h1wg, h1ts, h2nr, h2pf, h2ks, h2vs, h2wg, h2ts, h3nr, h3pf, h3ks, h3vs, h3wg, h3ts, rfl, fun j hj => ⟨cpy20 _ _ hj, cpy20 _ _ hj, cpy20 _ _ hj, cpy20 _ _ hj⟩, fun i hi => ?_⟩
    unfold sel4
    by_cases q0 : i = 0
    · simp [q0]
    · by_cases q1 : i = 1
      · simp [q1]
      · by_cases q2 : i = 2
        · simp [q2]
        · have q3 : i = 3 := by omega
          simp [q3]
  by_cases e1 : x = 1
  · subst e1
    rw [if_neg (by decide), if_pos (show nI 1 = 1 from rfl)]
    unfold f_X1_slotAt_1
    rw [bs, c_copyFrom _ _ _ _ hb, bs]
    refine ⟨(va_cpy oks h1ks 0 0 20), (va_cpy ovs h1vs 0 0 20), (va_cpy owg h1wg 0 0 20), (va_cpy ots h1ts 0 0 20), h0nr, h0pf, h0ks, h0vs, h0wg, h0ts, onr, opf, (va_cpy oks h1ks 0 0 20), (va_cpy ovs h1vs 0 0 20), (va_cpy owg h1wg 0 0 20), (va_cpy ots h1ts 0 0 20), h2nr, h2pf, h2ks, h2vs, h2wg, h2ts, h3nr, h3pf, h3ks, h3vs, h3wg, h3ts, rfl, fun j hj => ⟨cpy20 _ _ hj, cpy20 _ _ hj, cpy20 _ _ hj, cpy20 _ _ hj⟩, fun i hi => ?_⟩
    unfold sel4
    by_cases q0 : i = 0
    · simp [q0]
    · by_cases q1 : i = 1
      · simp [q1]
      · by_cases q2 : i = 2
        · simp [q2]
        · have q3 : i = 3 := by omega
          simp [q3]
  by_cases e2 : x = 2
  · subst e2
    rw [if_neg (by decide), if_neg (by decide), if_pos (show nI 2 = 2 from rfl)]
    unfold f_X1_slotAt_2
    rw [bs, c_copyFrom _ _ _ _ hb, bs]
    refine ⟨(va_cpy oks h2ks 0 0 20), (va_cpy ovs h2vs 0 0 20), (va_cpy owg h2wg 0 0 20), (va_cpy ots h2ts 0 0 20), h0nr, h0pf, h0ks, h0vs, h0wg, h0ts, h1nr, h1pf, h1ks, h1vs, h1wg, h1ts, onr, opf, (va_cpy oks h2ks 0 0 20), (va_cpy ovs h2vs 0 0 20), (va_cpy owg h2wg 0 0 20), (va_cpy ots h2ts 0 0 20), h3nr, h3pf, h3ks, h3vs, h3wg, h3ts, rfl, fun j hj => ⟨cpy20 _ _ hj, cpy20 _ _ hj, cpy20 _ _ hj, cpy20 _ _ hj⟩, fun i hi => ?_⟩
    unfold sel4
    by_cases q0 : i = 0
    · simp [q0]
    · by_cases q1 : i = 1
      · simp [q1]
      · by_cases q2 : i = 2
        · simp [q2]
        · have q3 : i = 3 := by omega
          simp [q3]
  by_cases e3 : x = 3
  · subst e3
    rw [if_neg (by decide), if_neg (by decide), if_neg (by decide), if_pos (show nI 3 = 3 from rfl)]
    unfold f_X1_slotAt_3
    rw [bs, c_copyFrom _ _ _ _ hb, bs]
    refine ⟨(va_cpy oks h3ks 0 0 20), (va_cpy ovs h3vs 0 0 20), (va_cpy owg h3wg 0 0 20), (va_cpy ots h3ts 0 0 20), h0nr, h0pf, h0ks, h0vs, h0wg, h0ts, h1nr, h1pf, h1ks, h1vs, h1wg, h1ts, h2nr, h2pf, h2ks, h2vs, h2wg, h2ts, onr, opf, (va_cpy oks h3ks 0 0 20), (va_cpy ovs h3vs 0 0 20), (va_cpy owg h3wg 0 0 20), (va_cpy ots h3ts 0 0 20), rfl, fun j hj => ⟨cpy20 _ _ hj, cpy20 _ _ hj, cpy20 _ _ hj, cpy20 _ _ hj⟩, fun i hi => ?_⟩
    unfold sel4
    by_cases q0 : i = 0
    · simp [q0]
    · by_cases q1 : i = 1
      · simp [q1]
      · by_cases q2 : i = 2
        · simp [q2]
        · have q3 : i = 3 := by omega
          simp [q3]
  omega
theorem c_takeBack {x z : Nat} (hx : x < 4) (hz : 0 < z) (hz4 : z ≤ 4) (h0nr : Int32) (h0pf : Int32) (h0ks : Nat → Int32) (h0vs : Nat → Int32) (h0wg : Nat → Int32) (h0ts : Nat → Int32) (h1nr : Int32) (h1pf : Int32) (h1ks : Nat → Int32) (h1vs : Nat → Int32) (h1wg : Nat → Int32) (h1ts : Nat → Int32) (h2nr : Int32) (h2pf : Int32) (h2ks : Nat → Int32) (h2vs : Nat → Int32) (h2wg : Nat → Int32) (h2ts : Nat → Int32) (h3nr : Int32) (h3pf : Int32) (h3ks : Nat → Int32) (h3vs : Nat → Int32) (h3wg : Nat → Int32) (h3ts : Nat → Int32) (onr : Int32) (opf : Int32) (oks : Nat → Int32) (ovs : Nat → Int32) (owg : Nat → Int32) (ots : Nat → Int32) (hb : ∀ i, i < 4 → i = (x + 3) % 4 → isB (sel4 (h0nr, h0pf, h0ks, h0vs, h0wg, h0ts) (h1nr, h1pf, h1ks, h1vs, h1wg, h1ts) (h2nr, h2pf, h2ks, h2vs, h2wg, h2ts) (h3nr, h3pf, h3ks, h3vs, h3wg, h3ts) i).2.1) :
    ∃ (cks cvs cwg cts : Nat → Int32), f_X1_takeBack (nI x) (nI z) h0nr h0pf h0ks h0vs h0wg h0ts h1nr h1pf h1ks h1vs h1wg h1ts h2nr h2pf h2ks h2vs h2wg h2ts h3nr h3pf h3ks h3vs h3wg h3ts onr opf oks ovs owg ots = some (1, nI ((x + 3) % 4), nI (z - 1), (sel4 (h0nr, h0pf, h0ks, h0vs, h0wg, h0ts) (h1nr, h1pf, h1ks, h1vs, h1wg, h1ts) (h2nr, h2pf, h2ks, h2vs, h2wg, h2ts) (h3nr, h3pf, h3ks, h3vs, h3wg, h3ts) ((x + 3) % 4)).1, (sel4 (h0nr, h0pf, h0ks, h0vs, h0wg, h0ts) (h1nr, h1pf, h1ks, h1vs, h1wg, h1ts) (h2nr, h2pf, h2ks, h2vs, h2wg, h2ts) (h3nr, h3pf, h3ks, h3vs, h3wg, h3ts) ((x + 3) % 4)).2.1, cks, cvs, cwg, cts) ∧ ∀ j, j < 20 → cks j = (sel4 (h0nr, h0pf, h0ks, h0vs, h0wg, h0ts) (h1nr, h1pf, h1ks, h1vs, h1wg, h1ts) (h2nr, h2pf, h2ks, h2vs, h2wg, h2ts) (h3nr, h3pf, h3ks, h3vs, h3wg, h3ts) ((x + 3) % 4)).2.2.1 j ∧ cvs j = (sel4 (h0nr, h0pf, h0ks, h0vs, h0wg, h0ts) (h1nr, h1pf, h1ks, h1vs, h1wg, h1ts) (h2nr, h2pf, h2ks, h2vs, h2wg, h2ts) (h3nr, h3pf, h3ks, h3vs, h3wg, h3ts) ((x + 3) % 4)).2.2.2.1 j ∧ cwg j = (sel4 (h0nr, h0pf, h0ks, h0vs, h0wg, h0ts) (h1nr, h1pf, h1ks, h1vs, h1wg, h1ts) (h2nr, h2pf, h2ks, h2vs, h2wg, h2ts) (h3nr, h3pf, h3ks, h3vs, h3wg, h3ts) ((x + 3) % 4)).2.2.2.2.1 j ∧ cts j = (sel4 (h0nr, h0pf, h0ks, h0vs, h0wg, h0ts) (h1nr, h1pf, h1ks, h1vs, h1wg, h1ts) (h2nr, h2pf, h2ks, h2vs, h2wg, h2ts) (h3nr, h3pf, h3ks, h3vs, h3wg, h3ts) ((x + 3) % 4)).2.2.2.2.2 j := by
  have h1 : ((nI x + 4) - 1) - ((nI x + 4) - 1) / 4 * 4 = nI ((x + 3) % 4) := by
    rw [show (4 : Int32) = nI 4 from rfl, nI_add, show (1 : Int32) = nI 1 from rfl, nI_subO (by omega), nI_mod (by omega) (by omega)]
    exact nI_ext (by omega)
  have h2 : ¬ nI z < 1 := nI_nlt (b := 1) hz (by omega)
  have h3 : nI z - 1 = nI (z - 1) := nI_subO hz
  unfold f_X1_takeBack
  rw [h1, h3]
  by_cases e0 : (x + 3) % 4 = 0
  · have hb0 : isB h0pf := hb 0 (by omega) e0.symm
    rw [e0]
    rw [if_pos (show nI 0 = 0 from rfl)]
    unfold f_X1_slotAt_0
    rw [bs, if_neg h2, c_copyFrom _ _ _ _ hb0, bs]
    exact ⟨_, _, _, _, rfl, fun j hj => ⟨cpy20 _ _ hj, cpy20 _ _ hj, cpy20 _ _ hj, cpy20 _ _ hj⟩⟩
  by_cases e1 : (x + 3) % 4 = 1
  · have hb1 : isB h1pf := hb 1 (by omega) e1.symm
    rw [e1]
    rw [if_neg (by decide), if_pos (show nI 1 = 1 from rfl)]
    unfold f_X1_slotAt_1
    rw [bs, if_neg h2, c_copyFrom _ _ _ _ hb1, bs]
    exact ⟨_, _, _, _, rfl, fun j hj => ⟨cpy20 _ _ hj, cpy20 _ _ hj, cpy20 _ _ hj, cpy20 _ _ hj⟩⟩
  by_cases e2 : (x + 3) % 4 = 2
  · have hb2 : isB h2pf := hb 2 (by omega) e2.symm
    rw [e2]
    rw [if_neg (by decide), if_neg (by decide), if_pos (show nI 2 = 2 from rfl)]
    unfold f_X1_slotAt_2
    rw [bs, if_neg h2, c_copyFrom _ _ _ _ hb2, bs]
    exact ⟨_, _, _, _, rfl, fun j hj => ⟨cpy20 _ _ hj, cpy20 _ _ hj, cpy20 _ _ hj, cpy20 _ _ hj⟩⟩
  by_cases e3 : (x + 3) % 4 = 3
  · have hb3 : isB h3pf := hb 3 (by omega) e3.symm
    rw [e3]
    rw [if_neg (by decide), if_neg (by decide), if_neg (by decide), if_pos (show nI 3 = 3 from rfl)]
    unfold f_X1_slotAt_3
    rw [bs, if_neg h2, c_copyFrom _ _ _ _ hb3, bs]
    exact ⟨_, _, _, _, rfl, fun j hj => ⟨cpy20 _ _ hj, cpy20 _ _ hj, cpy20 _ _ hj, cpy20 _ _ hj⟩⟩
  omega
theorem c_takeNone {x : Nat} (hx : x < 4) (h0nr : Int32) (h0pf : Int32) (h0ks : Nat → Int32) (h0vs : Nat → Int32) (h0wg : Nat → Int32) (h0ts : Nat → Int32) (h1nr : Int32) (h1pf : Int32) (h1ks : Nat → Int32) (h1vs : Nat → Int32) (h1wg : Nat → Int32) (h1ts : Nat → Int32) (h2nr : Int32) (h2pf : Int32) (h2ks : Nat → Int32) (h2vs : Nat → Int32) (h2wg : Nat → Int32) (h2ts : Nat → Int32) (h3nr : Int32) (h3pf : Int32) (h3ks : Nat → Int32) (h3vs : Nat → Int32) (h3wg : Nat → Int32) (h3ts : Nat → Int32) (onr : Int32) (opf : Int32) (oks : Nat → Int32) (ovs : Nat → Int32) (owg : Nat → Int32) (ots : Nat → Int32) : f_X1_takeBack (nI x) (nI 0) h0nr h0pf h0ks h0vs h0wg h0ts h1nr h1pf h1ks h1vs h1wg h1ts h2nr h2pf h2ks h2vs h2wg h2ts h3nr h3pf h3ks h3vs h3wg h3ts onr opf oks ovs owg ots = some (0, nI x, nI 0, onr, opf, oks, ovs, owg, ots) := by
  have h1 : ((nI x + 4) - 1) - ((nI x + 4) - 1) / 4 * 4 = nI ((x + 3) % 4) := by
    rw [show (4 : Int32) = nI 4 from rfl, nI_add, show (1 : Int32) = nI 1 from rfl, nI_subO (by omega), nI_mod (by omega) (by omega)]
    exact nI_ext (by omega)
  have h2 : nI 0 < 1 := nI_lt (b := 1) (by omega) (by omega)
  unfold f_X1_takeBack
  rw [h1]
  by_cases e0 : (x + 3) % 4 = 0
  · rw [e0]
    rw [if_pos (show nI 0 = 0 from rfl)]
    unfold f_X1_slotAt_0
    rw [bs, if_pos h2]
  by_cases e1 : (x + 3) % 4 = 1
  · rw [e1]
    rw [if_neg (by decide), if_pos (show nI 1 = 1 from rfl)]
    unfold f_X1_slotAt_1
    rw [bs, if_pos h2]
  by_cases e2 : (x + 3) % 4 = 2
  · rw [e2]
    rw [if_neg (by decide), if_neg (by decide), if_pos (show nI 2 = 2 from rfl)]
    unfold f_X1_slotAt_2
    rw [bs, if_pos h2]
  by_cases e3 : (x + 3) % 4 = 3
  · rw [e3]
    rw [if_neg (by decide), if_neg (by decide), if_neg (by decide), if_pos (show nI 3 = 3 from rfl)]
    unfold f_X1_slotAt_3
    rw [bs, if_pos h2]
  omega