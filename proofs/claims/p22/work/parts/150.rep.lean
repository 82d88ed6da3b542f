/-! what one object's state term stands for: a table with its preference, and the states of its history -/
abbrev ST : Type := AT × Bool
def RepT (S : ST) (t : TB) : Prop := TFa S.1 t.1 t.2.2.1 t.2.2.2.1 t.2.2.2.2.1 t.2.2.2.2.2 ∧ t.2.1 = bI S.2
def RepH (nx nz : Int32) (a b c d : TB) (z : Nat) (Hs : Nat → ST) : Prop := ∃ x, x < 4 ∧ z ≤ 4 ∧ nx = nI x ∧ nz = nI z ∧ ∀ i, i < z → RepT (Hs i) (sel4 a b c d ((x + 4 - z + i) % 4))
def Rep (u : SSt) (S : ST) (z : Nat) (Hs : Nat → ST) : Prop := RepT S (u.2.1, u.2.2.1, u.2.2.2.1, u.2.2.2.2.1, u.2.2.2.2.2.1, u.2.2.2.2.2.2.1) ∧ RepH u.2.2.2.2.2.2.2.2.2.2.2.2.1 u.2.2.2.2.2.2.2.2.2.2.2.2.2.1 (u.2.2.2.2.2.2.2.2.2.2.2.2.2.2.1, u.2.2.2.2.2.2.2.2.2.2.2.2.2.2.2.1, u.2.2.2.2.2.2.2.2.2.2.2.2.2.2.2.2.1, u.2.2.2.2.2.2.2.2.2.2.2.2.2.2.2.2.2.1, u.2.2.2.2.2.2.2.2.2.2.2.2.2.2.2.2.2.2.1, u.2.2.2.2.2.2.2.2.2.2.2.2.2.2.2.2.2.2.2.1) (u.2.2.2.2.2.2.2.2.2.2.2.2.2.2.2.2.2.2.2.2.1, u.2.2.2.2.2.2.2.2.2.2.2.2.2.2.2.2.2.2.2.2.2.1, u.2.2.2.2.2.2.2.2.2.2.2.2.2.2.2.2.2.2.2.2.2.2.1, u.2.2.2.2.2.2.2.2.2.2.2.2.2.2.2.2.2.2.2.2.2.2.2.1, u.2.2.2.2.2.2.2.2.2.2.2.2.2.2.2.2.2.2.2.2.2.2.2.2.1, u.2.2.2.2.2.2.2.2.2.2.2.2.2.2.2.2.2.2.2.2.2.2.2.2.2.1) (u.2.2.2.2.2.2.2.2.2.2.2.2.2.2.2.2.2.2.2.2.2.2.2.2.2.2.1, u.2.2.2.2.2.2.2.2.2.2.2.2.2.2.2.2.2.2.2.2.2.2.2.2.2.2.2.1, u.2.2.2.2.2.2.2.2.2.2.2.2.2.2.2.2.2.2.2.2.2.2.2.2.2.2.2.2.1, u.2.2.2.2.2.2.2.2.2.2.2.2.2.2.2.2.2.2.2.2.2.2.2.2.2.2.2.2.2.1, u.2.2.2.2.2.2.2.2.2.2.2.2.2.2.2.2.2.2.2.2.2.2.2.2.2.2.2.2.2.2.1, u.2.2.2.2.2.2.2.2.2.2.2.2.2.2.2.2.2.2.2.2.2.2.2.2.2.2.2.2.2.2.2.1) (u.2.2.2.2.2.2.2.2.2.2.2.2.2.2.2.2.2.2.2.2.2.2.2.2.2.2.2.2.2.2.2.2.1, u.2.2.2.2.2.2.2.2.2.2.2.2.2.2.2.2.2.2.2.2.2.2.2.2.2.2.2.2.2.2.2.2.2.1, u.2.2.2.2.2.2.2.2.2.2.2.2.2.2.2.2.2.2.2.2.2.2.2.2.2.2.2.2.2.2.2.2.2.2.1, u.2.2.2.2.2.2.2.2.2.2.2.2.2.2.2.2.2.2.2.2.2.2.2.2.2.2.2.2.2.2.2.2.2.2.2.1, u.2.2.2.2.2.2.2.2.2.2.2.2.2.2.2.2.2.2.2.2.2.2.2.2.2.2.2.2.2.2.2.2.2.2.2.2.1, u.2.2.2.2.2.2.2.2.2.2.2.2.2.2.2.2.2.2.2.2.2.2.2.2.2.2.2.2.2.2.2.2.2.2.2.2.2.1) z Hs
def hpush (z : Nat) (Hs : Nat → ST) (S : ST) : Nat → ST := fun i => if i + 1 = nz' z then S else Hs (if z = 4 then i + 1 else i)
theorem RepT_congr {S : ST} {nr pf : Int32} {ks vs wg ts ks' vs' wg' ts' : Nat → Int32} (h : RepT S (nr, pf, ks, vs, wg, ts)) (e : ∀ j, j < 20 → ks' j = ks j ∧ vs' j = vs j ∧ wg' j = wg j ∧ ts' j = ts j) : RepT S (nr, pf, ks', vs', wg', ts') := ⟨TF_congr h.1 e, h.2⟩
theorem RepT_isB {S : ST} {t : TB} (h : RepT S t) : isB t.2.1 := by rw [h.2]; exact isB_bI _
theorem RepH_push {x z : Nat} {a b c d a' b' c' d' cur : TB} {Hs : Nat → ST} {S : ST} (hx : x < 4) (hz : z ≤ 4)
    (h : ∀ i, i < z → RepT (Hs i) (sel4 a b c d ((x + 4 - z + i) % 4)))
    (hs : ∀ i, i < 4 → sel4 a' b' c' d' i = if i = x then cur else sel4 a b c d i)
    (hc : RepT S cur) : RepH (nI ((x + 1) % 4)) (nI (nz' z)) a' b' c' d' (nz' z) (hpush z Hs S) := by
  have hz' : nz' z ≤ 4 := by unfold nz'; split <;> omega
  refine ⟨(x + 1) % 4, by omega, hz', rfl, rfl, fun i hi2 => ?_⟩
  rw [hs _ (by omega)]
  unfold hpush
  by_cases q : i + 1 = nz' z
  · have hxe : ((x + 1) % 4 + 4 - nz' z + i) % 4 = x := by omega
    rw [if_pos hxe, if_pos q]
    exact hc
  · rw [if_neg q]
    by_cases e : z = 4
    · subst e
      have hz4 : nz' 4 = 4 := rfl
      rw [hz4] at q hi2 ⊢
      have hxe : ((x + 1) % 4 + 4 - 4 + i) % 4 = (x + 4 - 4 + (i + 1)) % 4 := by omega
      have hxn : ¬ ((x + 1) % 4 + 4 - 4 + i) % 4 = x := by omega
      rw [if_neg hxn, hxe, if_pos rfl]
      exact h (i + 1) (by omega)
    · have hz1 : nz' z = z + 1 := by unfold nz'; rw [if_neg e]
      rw [hz1] at q hi2 hz' ⊢
      have hxe : ((x + 1) % 4 + 4 - (z + 1) + i) % 4 = (x + 4 - z + i) % 4 := by omega
      have hxn : ¬ ((x + 1) % 4 + 4 - (z + 1) + i) % 4 = x := by omega
      rw [if_neg hxn, hxe, if_neg e]
      exact h i (by omega)
theorem rem_x {S : ST} {z : Nat} {Hs : Nat → ST} {nx nz : Int32} {h0nr : Int32} {h0pf : Int32} {h0ks : Nat → Int32} {h0vs : Nat → Int32} {h0wg : Nat → Int32} {h0ts : Nat → Int32} {h1nr : Int32} {h1pf : Int32} {h1ks : Nat → Int32} {h1vs : Nat → Int32} {h1wg : Nat → Int32} {h1ts : Nat → Int32} {h2nr : Int32} {h2pf : Int32} {h2ks : Nat → Int32} {h2vs : Nat → Int32} {h2wg : Nat → Int32} {h2ts : Nat → Int32} {h3nr : Int32} {h3pf : Int32} {h3ks : Nat → Int32} {h3vs : Nat → Int32} {h3wg : Nat → Int32} {h3ts : Nat → Int32} {nr : Int32} {pf : Int32} {ks : Nat → Int32} {vs : Nat → Int32} {wg : Nat → Int32} {ts : Nat → Int32} (hT : RepT S (nr, pf, ks, vs, wg, ts)) (hH : RepH nx nz (h0nr, h0pf, h0ks, h0vs, h0wg, h0ts) (h1nr, h1pf, h1ks, h1vs, h1wg, h1ts) (h2nr, h2pf, h2ks, h2vs, h2wg, h2ts) (h3nr, h3pf, h3ks, h3vs, h3wg, h3ts) z Hs) :
    ∃ (nx2 nz2 : Int32) (g0nr : Int32) (g0pf : Int32) (g0ks : Nat → Int32) (g0vs : Nat → Int32) (g0wg : Nat → Int32) (g0ts : Nat → Int32) (g1nr : Int32) (g1pf : Int32) (g1ks : Nat → Int32) (g1vs : Nat → Int32) (g1wg : Nat → Int32) (g1ts : Nat → Int32) (g2nr : Int32) (g2pf : Int32) (g2ks : Nat → Int32) (g2vs : Nat → Int32) (g2wg : Nat → Int32) (g2ts : Nat → Int32) (g3nr : Int32) (g3pf : Int32) (g3ks : Nat → Int32) (g3vs : Nat → Int32) (g3wg : Nat → Int32) (g3ts : Nat → Int32), f_X1_remember nx nz h0nr h0pf h0ks h0vs h0wg h0ts h1nr h1pf h1ks h1vs h1wg h1ts h2nr h2pf h2ks h2vs h2wg h2ts h3nr h3pf h3ks h3vs h3wg h3ts nr pf ks vs wg ts = some (nx2, nz2, g0nr, g0pf, g0ks, g0vs, g0wg, g0ts, g1nr, g1pf, g1ks, g1vs, g1wg, g1ts, g2nr, g2pf, g2ks, g2vs, g2wg, g2ts, g3nr, g3pf, g3ks, g3vs, g3wg, g3ts) ∧ RepH nx2 nz2 (g0nr, g0pf, g0ks, g0vs, g0wg, g0ts) (g1nr, g1pf, g1ks, g1vs, g1wg, g1ts) (g2nr, g2pf, g2ks, g2vs, g2wg, g2ts) (g3nr, g3pf, g3ks, g3vs, g3wg, g3ts) (nz' z) (hpush z Hs S) := by
  obtain ⟨x, hx, hz, rfl, rfl, hr⟩ := hH
  obtain ⟨cks, cvs, cwg, cts, g0nr, g0pf, g0ks, g0vs, g0wg, g0ts, g1nr, g1pf, g1ks, g1vs, g1wg, g1ts, g2nr, g2pf, g2ks, g2vs, g2wg, g2ts, g3nr, g3pf, g3ks, g3vs, g3wg, g3ts, r1, r2, r3⟩ := c_remember hx hz h0nr h0pf h0ks h0vs h0wg h0ts h1nr h1pf h1ks h1vs h1wg h1ts h2nr h2pf h2ks h2vs h2wg h2ts h3nr h3pf h3ks h3vs h3wg h3ts nr pf ks vs wg ts (RepT_isB hT)
  exact ⟨_, _, g0nr, g0pf, g0ks, g0vs, g0wg, g0ts, g1nr, g1pf, g1ks, g1vs, g1wg, g1ts, g2nr, g2pf, g2ks, g2vs, g2wg, g2ts, g3nr, g3pf, g3ks, g3vs, g3wg, g3ts, r1, RepH_push (cur := (nr, pf, cks, cvs, cwg, cts)) hx hz hr r3 (RepT_congr hT r2)⟩
def pushA (A : AT) (k v g t : Nat) : AT := (A.1 + 1, pushF A.2.1 A.1 k, pushF A.2.2.1 A.1 v, pushF A.2.2.2.1 A.1 g, pushF A.2.2.2.2 A.1 t)
def dropA (A : AT) (r : Nat) : AT := (A.1 - 1, dropF A.2.1 r, dropF A.2.2.1 r, dropF A.2.2.2.1 r, dropF A.2.2.2.2 r)
def mendA (A : AT) (r : Nat) : AT := selA A (kl (kpB A.2.1 r) A.1)
section ACTX
variable {S : ST} {z : Nat} {Hs : Nat → ST} {nr : Int32} {pf : Int32} {ks : Nat → Int32} {vs : Nat → Int32} {wg : Nat → Int32} {ts : Nat → Int32} {nx : Int32} {nz : Int32} {h0nr : Int32} {h0pf : Int32} {h0ks : Nat → Int32} {h0vs : Nat → Int32} {h0wg : Nat → Int32} {h0ts : Nat → Int32} {h1nr : Int32} {h1pf : Int32} {h1ks : Nat → Int32} {h1vs : Nat → Int32} {h1wg : Nat → Int32} {h1ts : Nat → Int32} {h2nr : Int32} {h2pf : Int32} {h2ks : Nat → Int32} {h2vs : Nat → Int32} {h2wg : Nat → Int32} {h2ts : Nat → Int32} {h3nr : Int32} {h3pf : Int32} {h3ks : Nat → Int32} {h3vs : Nat → Int32} {h3wg : Nat → Int32} {h3ts : Nat → Int32}
theorem x_full (hT : RepT S (nr, pf, ks, vs, wg, ts)) (hn : S.1.1 = 20) {k v g t : Nat} (hk : k < 10) (hv : v < 8) (hg : g < 100) (ht : t ≤ 10) : f_X5_add nr pf ks vs wg ts nx nz h0nr h0pf h0ks h0vs h0wg h0ts h1nr h1pf h1ks h1vs h1wg h1ts h2nr h2pf h2ks h2vs h2wg h2ts h3nr h3pf h3ks h3vs h3wg h3ts (nI k) (nI (97 + v)) (nI g) (tI t) = some (-3, nr, ks, vs, wg, ts, nx, nz, h0nr, h0pf, h0ks, h0vs, h0wg, h0ts, h1nr, h1pf, h1ks, h1vs, h1wg, h1ts, h2nr, h2pf, h2ks, h2vs, h2wg, h2ts, h3nr, h3pf, h3ks, h3vs, h3wg, h3ts) := by
  have h1 := hT.1
  have h2 : nr = nI S.1.1 := h1.1
  have h97 : vB (nI (97 + v)) = true := by unfold vB; rw [nI_toInt (by omega)]; exact decide_eq_true (by omega)
  have hroom : f_X3_room nr = some (nI (20 - S.1.1)) := c_room h1
  unfold f_X5_add
  rw [c_isKey, bs, dB_nI (by omega), decide_eq_true hk, if_neg (show ¬ bI true = 0 by decide), c_isKey, bs, dB_tI ht]
  by_cases e : t < 10
  · rw [decide_eq_true e, if_neg (show ¬ bI true = 0 by decide), c_isValue, h97, bs, if_neg (show ¬ bI true = 0 by decide), if_neg (nI_pos (by omega)), if_pos (show nI g ≤ 99 from nI_le (b := 99) (by omega) (by omega)), hroom, bs, hn, if_neg (show ¬ 1 ≤ nI (20 - 20) by decide)]
  · rw [decide_eq_false e, if_pos (show bI false = 0 from rfl), if_pos (tI_10 e), c_isValue, h97, bs, if_neg (show ¬ bI true = 0 by decide), if_neg (nI_pos (by omega)), if_pos (show nI g ≤ 99 from nI_le (b := 99) (by omega) (by omega)), hroom, bs, hn, if_neg (show ¬ 1 ≤ nI (20 - 20) by decide)]
theorem x_add (hT : RepT S (nr, pf, ks, vs, wg, ts)) (hH : RepH nx nz (h0nr, h0pf, h0ks, h0vs, h0wg, h0ts) (h1nr, h1pf, h1ks, h1vs, h1wg, h1ts) (h2nr, h2pf, h2ks, h2vs, h2wg, h2ts) (h3nr, h3pf, h3ks, h3vs, h3wg, h3ts) z Hs) (hn : S.1.1 < 20) {k v g t : Nat} (hk : k < 10) (hv : v < 8) (hg : g < 100) (ht : t ≤ 10) :
    ∃ (nr2 : Int32) (ks2 vs2 wg2 ts2 : Nat → Int32) (nx2 nz2 : Int32) (g0nr : Int32) (g0pf : Int32) (g0ks : Nat → Int32) (g0vs : Nat → Int32) (g0wg : Nat → Int32) (g0ts : Nat → Int32) (g1nr : Int32) (g1pf : Int32) (g1ks : Nat → Int32) (g1vs : Nat → Int32) (g1wg : Nat → Int32) (g1ts : Nat → Int32) (g2nr : Int32) (g2pf : Int32) (g2ks : Nat → Int32) (g2vs : Nat → Int32) (g2wg : Nat → Int32) (g2ts : Nat → Int32) (g3nr : Int32) (g3pf : Int32) (g3ks : Nat → Int32) (g3vs : Nat → Int32) (g3wg : Nat → Int32) (g3ts : Nat → Int32), f_X5_add nr pf ks vs wg ts nx nz h0nr h0pf h0ks h0vs h0wg h0ts h1nr h1pf h1ks h1vs h1wg h1ts h2nr h2pf h2ks h2vs h2wg h2ts h3nr h3pf h3ks h3vs h3wg h3ts (nI k) (nI (97 + v)) (nI g) (tI t) = some (nI S.1.1, nr2, ks2, vs2, wg2, ts2, nx2, nz2, g0nr, g0pf, g0ks, g0vs, g0wg, g0ts, g1nr, g1pf, g1ks, g1vs, g1wg, g1ts, g2nr, g2pf, g2ks, g2vs, g2wg, g2ts, g3nr, g3pf, g3ks, g3vs, g3wg, g3ts) ∧ RepT (pushA S.1 k v g t, S.2) (nr2, pf, ks2, vs2, wg2, ts2) ∧ RepH nx2 nz2 (g0nr, g0pf, g0ks, g0vs, g0wg, g0ts) (g1nr, g1pf, g1ks, g1vs, g1wg, g1ts) (g2nr, g2pf, g2ks, g2vs, g2wg, g2ts) (g3nr, g3pf, g3ks, g3vs, g3wg, g3ts) (nz' z) (hpush z Hs S) := by
  obtain ⟨nx2, nz2, g0nr, g0pf, g0ks, g0vs, g0wg, g0ts, g1nr, g1pf, g1ks, g1vs, g1wg, g1ts, g2nr, g2pf, g2ks, g2vs, g2wg, g2ts, g3nr, g3pf, g3ks, g3vs, g3wg, g3ts, r1, r2⟩ := rem_x hT hH
  obtain ⟨ks2, vs2, wg2, ts2, a1, a2⟩ := c_append hT.1 hn (k := k) (v := v) (g := g) (t := t) hk hv (by omega) ht
  refine ⟨nI (S.1.1 + 1), ks2, vs2, wg2, ts2, nx2, nz2, g0nr, g0pf, g0ks, g0vs, g0wg, g0ts, g1nr, g1pf, g1ks, g1vs, g1wg, g1ts, g2nr, g2pf, g2ks, g2vs, g2wg, g2ts, g3nr, g3pf, g3ks, g3vs, g3wg, g3ts, ?_, ⟨a2, hT.2⟩, r2⟩
  have h1 := hT.1
  have h2 : nr = nI S.1.1 := h1.1
  have h97 : vB (nI (97 + v)) = true := by unfold vB; rw [nI_toInt (by omega)]; exact decide_eq_true (by omega)
  have hroom : f_X3_room nr = some (nI (20 - S.1.1)) := c_room h1
  unfold f_X5_add
  rw [c_isKey, bs, dB_nI (by omega), decide_eq_true hk, if_neg (show ¬ bI true = 0 by decide), c_isKey, bs, dB_tI ht]
  by_cases e : t < 10
  · rw [decide_eq_true e, if_neg (show ¬ bI true = 0 by decide), c_isValue, h97, bs, if_neg (show ¬ bI true = 0 by decide), if_neg (nI_pos (by omega)), if_pos (show nI g ≤ 99 from nI_le (b := 99) (by omega) (by omega)), hroom, bs, if_pos (show 1 ≤ nI (20 - S.1.1) from nI_le (a := 1) (by omega) (by omega)), r1, bs]
    try dsimp only
    rw [a1, bs]
    try dsimp only
    unfold f_X3_size
    rw [bs, nI_pred]
  · rw [decide_eq_false e, if_pos (show bI false = 0 from rfl), if_pos (tI_10 e), c_isValue, h97, bs, if_neg (show ¬ bI true = 0 by decide), if_neg (nI_pos (by omega)), if_pos (show nI g ≤ 99 from nI_le (b := 99) (by omega) (by omega)), hroom, bs, if_pos (show 1 ≤ nI (20 - S.1.1) from nI_le (a := 1) (by omega) (by omega)), r1, bs]
    try dsimp only
    rw [a1, bs]
    try dsimp only
    unfold f_X3_size
    rw [bs, nI_pred]
theorem x_removeNo (hT : RepT S (nr, pf, ks, vs, wg, ts)) : f_X5_remove nr pf ks vs wg ts nx nz h0nr h0pf h0ks h0vs h0wg h0ts h1nr h1pf h1ks h1vs h1wg h1ts h2nr h2pf h2ks h2vs h2wg h2ts h3nr h3pf h3ks h3vs h3wg h3ts (nI S.1.1) = some (-1, nr, ks, vs, wg, ts, nx, nz, h0nr, h0pf, h0ks, h0vs, h0wg, h0ts, h1nr, h1pf, h1ks, h1vs, h1wg, h1ts, h2nr, h2pf, h2ks, h2vs, h2wg, h2ts, h3nr, h3pf, h3ks, h3vs, h3wg, h3ts) := by
  have hn : S.1.1 ≤ 20 := hT.1.2.1
  have hh : f_X3_has nr (nI S.1.1) = some (bI (dB (nI S.1.1) S.1.1)) := c_has hT.1 _
  unfold f_X5_remove
  rw [hh, bs, dB_nI (by omega), decide_eq_false (Nat.lt_irrefl _), if_pos (show bI false = 0 from rfl)]
theorem x_remove (hT : RepT S (nr, pf, ks, vs, wg, ts)) (hH : RepH nx nz (h0nr, h0pf, h0ks, h0vs, h0wg, h0ts) (h1nr, h1pf, h1ks, h1vs, h1wg, h1ts) (h2nr, h2pf, h2ks, h2vs, h2wg, h2ts) (h3nr, h3pf, h3ks, h3vs, h3wg, h3ts) z Hs) {r : Nat} (hr : r < S.1.1) : ∃ (nr2 : Int32) (ks2 vs2 wg2 ts2 : Nat → Int32) (nx2 nz2 : Int32) (g0nr : Int32) (g0pf : Int32) (g0ks : Nat → Int32) (g0vs : Nat → Int32) (g0wg : Nat → Int32) (g0ts : Nat → Int32) (g1nr : Int32) (g1pf : Int32) (g1ks : Nat → Int32) (g1vs : Nat → Int32) (g1wg : Nat → Int32) (g1ts : Nat → Int32) (g2nr : Int32) (g2pf : Int32) (g2ks : Nat → Int32) (g2vs : Nat → Int32) (g2wg : Nat → Int32) (g2ts : Nat → Int32) (g3nr : Int32) (g3pf : Int32) (g3ks : Nat → Int32) (g3vs : Nat → Int32) (g3wg : Nat → Int32) (g3ts : Nat → Int32), f_X5_remove nr pf ks vs wg ts nx nz h0nr h0pf h0ks h0vs h0wg h0ts h1nr h1pf h1ks h1vs h1wg h1ts h2nr h2pf h2ks h2vs h2wg h2ts h3nr h3pf h3ks h3vs h3wg h3ts (nI r) = some (nI (S.1.1 - 1), nr2, ks2, vs2, wg2, ts2, nx2, nz2, g0nr, g0pf, g0ks, g0vs, g0wg, g0ts, g1nr, g1pf, g1ks, g1vs, g1wg, g1ts, g2nr, g2pf, g2ks, g2vs, g2wg, g2ts, g3nr, g3pf, g3ks, g3vs, g3wg, g3ts) ∧ RepT (dropA S.1 r, S.2) (nr2, pf, ks2, vs2, wg2, ts2) ∧ RepH nx2 nz2 (g0nr, g0pf, g0ks, g0vs, g0wg, g0ts) (g1nr, g1pf, g1ks, g1vs, g1wg, g1ts) (g2nr, g2pf, g2ks, g2vs, g2wg, g2ts) (g3nr, g3pf, g3ks, g3vs, g3wg, g3ts) (nz' z) (hpush z Hs S) := by
  obtain ⟨nx2, nz2, g0nr, g0pf, g0ks, g0vs, g0wg, g0ts, g1nr, g1pf, g1ks, g1vs, g1wg, g1ts, g2nr, g2pf, g2ks, g2vs, g2wg, g2ts, g3nr, g3pf, g3ks, g3vs, g3wg, g3ts, r1, r2⟩ := rem_x hT hH
  have hn : S.1.1 ≤ 20 := hT.1.2.1
  have hh : f_X3_has nr (nI r) = some (bI (dB (nI r) S.1.1)) := c_has hT.1 _
  obtain ⟨ks2, vs2, wg2, ts2, a1, a2⟩ := c_drop hT.1 hr
  refine ⟨nI (S.1.1 - 1), ks2, vs2, wg2, ts2, nx2, nz2, g0nr, g0pf, g0ks, g0vs, g0wg, g0ts, g1nr, g1pf, g1ks, g1vs, g1wg, g1ts, g2nr, g2pf, g2ks, g2vs, g2wg, g2ts, g3nr, g3pf, g3ks, g3vs, g3wg, g3ts, ?_, ⟨a2, hT.2⟩, r2⟩
  unfold f_X5_remove
  rw [hh, bs, dB_nI (by omega), decide_eq_true hr, if_neg (show ¬ bI true = 0 by decide), r1, bs]
  try dsimp only
  rw [a1, bs]
  try dsimp only
  unfold f_X3_size
  rw [bs]
theorem x_mendNo (hT : RepT S (nr, pf, ks, vs, wg, ts)) : f_X5_mend nr pf ks vs wg ts nx nz h0nr h0pf h0ks h0vs h0wg h0ts h1nr h1pf h1ks h1vs h1wg h1ts h2nr h2pf h2ks h2vs h2wg h2ts h3nr h3pf h3ks h3vs h3wg h3ts (nI S.1.1) = some (-1, nr, ks, vs, wg, ts, nx, nz, h0nr, h0pf, h0ks, h0vs, h0wg, h0ts, h1nr, h1pf, h1ks, h1vs, h1wg, h1ts, h2nr, h2pf, h2ks, h2vs, h2wg, h2ts, h3nr, h3pf, h3ks, h3vs, h3wg, h3ts) := by
  have hn : S.1.1 ≤ 20 := hT.1.2.1
  have hh : f_X3_has nr (nI S.1.1) = some (bI (dB (nI S.1.1) S.1.1)) := c_has hT.1 _
  unfold f_X5_mend
  rw [hh, bs, dB_nI (by omega), decide_eq_false (Nat.lt_irrefl _), if_pos (show bI false = 0 from rfl)]
theorem x_mendOne (hT : RepT S (nr, pf, ks, vs, wg, ts)) {r : Nat} (hr : r < S.1.1) (h1 : cntK S.1 (S.1.2.1 r) = 1) : f_X5_mend nr pf ks vs wg ts nx nz h0nr h0pf h0ks h0vs h0wg h0ts h1nr h1pf h1ks h1vs h1wg h1ts h2nr h2pf h2ks h2vs h2wg h2ts h3nr h3pf h3ks h3vs h3wg h3ts (nI r) = some (-5, nr, ks, vs, wg, ts, nx, nz, h0nr, h0pf, h0ks, h0vs, h0wg, h0ts, h1nr, h1pf, h1ks, h1vs, h1wg, h1ts, h2nr, h2pf, h2ks, h2vs, h2wg, h2ts, h3nr, h3pf, h3ks, h3vs, h3wg, h3ts) := by
  have hn : S.1.1 ≤ 20 := hT.1.2.1
  have hh : f_X3_has nr (nI r) = some (bI (dB (nI r) S.1.1)) := c_has hT.1 _
  have hKj : S.1.2.1 r < 10 := (hT.1.2.2 r hr).2.2.2.2.1
  have hk1 : f_X3_keyAt ks (nI r) = some (nI (S.1.2.1 r)) := TF.keyAt hT.1 hr
  have hk2 : f_X3_rowsWith nr ks (nI (S.1.2.1 r)) = some (nI (cntK S.1 (S.1.2.1 r))) := TF.rowsWith hT.1 _ hKj
  have hcl : cntK S.1 (S.1.2.1 r) ≤ S.1.1 := cntP_le _ _
  unfold f_X5_mend
  rw [hh, bs, dB_nI (by omega), decide_eq_true hr, if_neg (show ¬ bI true = 0 by decide), hk1, bs, hk2, bs, h1, if_pos (show nI 1 - 1 = 0 by decide)]
theorem x_mend (hT : RepT S (nr, pf, ks, vs, wg, ts)) (hH : RepH nx nz (h0nr, h0pf, h0ks, h0vs, h0wg, h0ts) (h1nr, h1pf, h1ks, h1vs, h1wg, h1ts) (h2nr, h2pf, h2ks, h2vs, h2wg, h2ts) (h3nr, h3pf, h3ks, h3vs, h3wg, h3ts) z Hs) {r : Nat} (hr : r < S.1.1) (h1 : 1 < cntK S.1 (S.1.2.1 r)) : ∃ (nr2 : Int32) (ks2 vs2 wg2 ts2 : Nat → Int32) (nx2 nz2 : Int32) (g0nr : Int32) (g0pf : Int32) (g0ks : Nat → Int32) (g0vs : Nat → Int32) (g0wg : Nat → Int32) (g0ts : Nat → Int32) (g1nr : Int32) (g1pf : Int32) (g1ks : Nat → Int32) (g1vs : Nat → Int32) (g1wg : Nat → Int32) (g1ts : Nat → Int32) (g2nr : Int32) (g2pf : Int32) (g2ks : Nat → Int32) (g2vs : Nat → Int32) (g2wg : Nat → Int32) (g2ts : Nat → Int32) (g3nr : Int32) (g3pf : Int32) (g3ks : Nat → Int32) (g3vs : Nat → Int32) (g3wg : Nat → Int32) (g3ts : Nat → Int32), f_X5_mend nr pf ks vs wg ts nx nz h0nr h0pf h0ks h0vs h0wg h0ts h1nr h1pf h1ks h1vs h1wg h1ts h2nr h2pf h2ks h2vs h2wg h2ts h3nr h3pf h3ks h3vs h3wg h3ts (nI r) = some (nI (cntK S.1 (S.1.2.1 r) - 1), nr2, ks2, vs2, wg2, ts2, nx2, nz2, g0nr, g0pf, g0ks, g0vs, g0wg, g0ts, g1nr, g1pf, g1ks, g1vs, g1wg, g1ts, g2nr, g2pf, g2ks, g2vs, g2wg, g2ts, g3nr, g3pf, g3ks, g3vs, g3wg, g3ts) ∧ RepT (mendA S.1 r, S.2) (nr2, pf, ks2, vs2, wg2, ts2) ∧ RepH nx2 nz2 (g0nr, g0pf, g0ks, g0vs, g0wg, g0ts) (g1nr, g1pf, g1ks, g1vs, g1wg, g1ts) (g2nr, g2pf, g2ks, g2vs, g2wg, g2ts) (g3nr, g3pf, g3ks, g3vs, g3wg, g3ts) (nz' z) (hpush z Hs S) := by
  obtain ⟨nx2, nz2, g0nr, g0pf, g0ks, g0vs, g0wg, g0ts, g1nr, g1pf, g1ks, g1vs, g1wg, g1ts, g2nr, g2pf, g2ks, g2vs, g2wg, g2ts, g3nr, g3pf, g3ks, g3vs, g3wg, g3ts, r1, r2⟩ := rem_x hT hH
  have hn : S.1.1 ≤ 20 := hT.1.2.1
  have hh : f_X3_has nr (nI r) = some (bI (dB (nI r) S.1.1)) := c_has hT.1 _
  have hKj : S.1.2.1 r < 10 := (hT.1.2.2 r hr).2.2.2.2.1
  have hk1 : f_X3_keyAt ks (nI r) = some (nI (S.1.2.1 r)) := TF.keyAt hT.1 hr
  have hk2 : f_X3_rowsWith nr ks (nI (S.1.2.1 r)) = some (nI (cntK S.1 (S.1.2.1 r))) := TF.rowsWith hT.1 _ hKj
  have hcl : cntK S.1 (S.1.2.1 r) ≤ S.1.1 := cntP_le _ _
  obtain ⟨ks2, vs2, wg2, ts2, a1, a2⟩ := c_dropOthers hT.1 hr
  have hsub : nI (cntK S.1 (S.1.2.1 r)) - 1 = nI (cntK S.1 (S.1.2.1 r) - 1) := nI_subO (b := 1) (by omega)
  refine ⟨nI (kl (kpB S.1.2.1 r) S.1.1).length, ks2, vs2, wg2, ts2, nx2, nz2, g0nr, g0pf, g0ks, g0vs, g0wg, g0ts, g1nr, g1pf, g1ks, g1vs, g1wg, g1ts, g2nr, g2pf, g2ks, g2vs, g2wg, g2ts, g3nr, g3pf, g3ks, g3vs, g3wg, g3ts, ?_, ⟨a2, hT.2⟩, r2⟩
  unfold f_X5_mend
  rw [hh, bs, dB_nI (by omega), decide_eq_true hr, if_neg (show ¬ bI true = 0 by decide), hk1, bs, hk2, bs, hsub, if_neg (nI_ne0 (by omega) (by omega)), r1, bs]
  try dsimp only
  rw [a1, bs]
def dblA (A : AT) : Nat := cntP (fun k => decide (2 ≤ cntK A k)) 10
theorem x_mendAllNo (hT : RepT S (nr, pf, ks, vs, wg, ts)) {w : Nat} (hw : w < 3) (h0 : dblA S.1 = 0) : f_X5_mendAll nr pf ks vs wg ts nx nz h0nr h0pf h0ks h0vs h0wg h0ts h1nr h1pf h1ks h1vs h1wg h1ts h2nr h2pf h2ks h2vs h2wg h2ts h3nr h3pf h3ks h3vs h3wg h3ts (nI w) = some (-5, nr, ks, vs, wg, ts, nx, nz, h0nr, h0pf, h0ks, h0vs, h0wg, h0ts, h1nr, h1pf, h1ks, h1vs, h1wg, h1ts, h2nr, h2pf, h2ks, h2vs, h2wg, h2ts, h3nr, h3pf, h3ks, h3vs, h3wg, h3ts) := by
  have a1 : f_X3_doubledKeys nr ks = some (nI (dblA S.1)) := by
    unfold f_X3_doubledKeys
    have := TF.keysWith hT.1 2 (by omega)
    rw [show (2 : Int32) = nI 2 from rfl, this, bs]
    rfl
  have hcl : dblA S.1 ≤ 10 := cntP_le _ 10
  unfold f_X5_mendAll
  rw [if_neg (nI_pos (by omega)), if_pos (show nI w ≤ 2 from nI_le (b := 2) (by omega) (by omega)), a1, bs, h0, if_pos (show nI 0 = 0 from rfl)]
theorem x_mendAll (hT : RepT S (nr, pf, ks, vs, wg, ts)) (hH : RepH nx nz (h0nr, h0pf, h0ks, h0vs, h0wg, h0ts) (h1nr, h1pf, h1ks, h1vs, h1wg, h1ts) (h2nr, h2pf, h2ks, h2vs, h2wg, h2ts) (h3nr, h3pf, h3ks, h3vs, h3wg, h3ts) z Hs) {w : Nat} (hw : w < 3) (h0 : 0 < dblA S.1) : ∃ (nr2 : Int32) (ks2 vs2 wg2 ts2 : Nat → Int32) (nx2 nz2 : Int32) (g0nr : Int32) (g0pf : Int32) (g0ks : Nat → Int32) (g0vs : Nat → Int32) (g0wg : Nat → Int32) (g0ts : Nat → Int32) (g1nr : Int32) (g1pf : Int32) (g1ks : Nat → Int32) (g1vs : Nat → Int32) (g1wg : Nat → Int32) (g1ts : Nat → Int32) (g2nr : Int32) (g2pf : Int32) (g2ks : Nat → Int32) (g2vs : Nat → Int32) (g2wg : Nat → Int32) (g2ts : Nat → Int32) (g3nr : Int32) (g3pf : Int32) (g3ks : Nat → Int32) (g3vs : Nat → Int32) (g3wg : Nat → Int32) (g3ts : Nat → Int32), f_X5_mendAll nr pf ks vs wg ts nx nz h0nr h0pf h0ks h0vs h0wg h0ts h1nr h1pf h1ks h1vs h1wg h1ts h2nr h2pf h2ks h2vs h2wg h2ts h3nr h3pf h3ks h3vs h3wg h3ts (nI w) = some (nI (S.1.1 - (mit w S.1 10).1), nr2, ks2, vs2, wg2, ts2, nx2, nz2, g0nr, g0pf, g0ks, g0vs, g0wg, g0ts, g1nr, g1pf, g1ks, g1vs, g1wg, g1ts, g2nr, g2pf, g2ks, g2vs, g2wg, g2ts, g3nr, g3pf, g3ks, g3vs, g3wg, g3ts) ∧ RepT (mit w S.1 10, S.2) (nr2, pf, ks2, vs2, wg2, ts2) ∧ RepH nx2 nz2 (g0nr, g0pf, g0ks, g0vs, g0wg, g0ts) (g1nr, g1pf, g1ks, g1vs, g1wg, g1ts) (g2nr, g2pf, g2ks, g2vs, g2wg, g2ts) (g3nr, g3pf, g3ks, g3vs, g3wg, g3ts) (nz' z) (hpush z Hs S) := by
  obtain ⟨nx2, nz2, g0nr, g0pf, g0ks, g0vs, g0wg, g0ts, g1nr, g1pf, g1ks, g1vs, g1wg, g1ts, g2nr, g2pf, g2ks, g2vs, g2wg, g2ts, g3nr, g3pf, g3ks, g3vs, g3wg, g3ts, r1, r2⟩ := rem_x hT hH
  have a1 : f_X3_doubledKeys nr ks = some (nI (dblA S.1)) := by
    unfold f_X3_doubledKeys
    have := TF.keysWith hT.1 2 (by omega)
    rw [show (2 : Int32) = nI 2 from rfl, this, bs]
    rfl
  have hcl : dblA S.1 ≤ 10 := cntP_le _ 10
  obtain ⟨nr2, ks2, vs2, wg2, ts2, l1, l2⟩ := c_mendLoop hT.1 hw nx2 nz2 g0nr g0pf g0ks g0vs g0wg g0ts g1nr g1pf g1ks g1vs g1wg g1ts g2nr g2pf g2ks g2vs g2wg g2ts g3nr g3pf g3ks g3vs g3wg g3ts
  refine ⟨nr2, ks2, vs2, wg2, ts2, nx2, nz2, g0nr, g0pf, g0ks, g0vs, g0wg, g0ts, g1nr, g1pf, g1ks, g1vs, g1wg, g1ts, g2nr, g2pf, g2ks, g2vs, g2wg, g2ts, g3nr, g3pf, g3ks, g3vs, g3wg, g3ts, ?_, ⟨l2, hT.2⟩, r2⟩
  have h2 : nr = nI S.1.1 := hT.1.1
  unfold f_X5_mendAll
  rw [if_neg (nI_pos (by omega)), if_pos (show nI w ≤ 2 from nI_le (b := 2) (by omega) (by omega)), a1, bs, if_neg (nI_ne0 (by omega) (by omega)), r1, bs]
  try dsimp only
  unfold f_X3_size
  rw [bs]
  have e : nI (S.1.1) = nr := h2.symm
  rw [e] at l1
  exact l1
variable {mn : Int32} {oc os sd tg : Nat → Int32}
theorem x_preferNo (hT : RepT S (nr, pf, ks, vs, wg, ts)) : f_X5_prefer nr pf ks vs wg ts mn oc os sd tg nx nz h0nr h0pf h0ks h0vs h0wg h0ts h1nr h1pf h1ks h1vs h1wg h1ts h2nr h2pf h2ks h2vs h2wg h2ts h3nr h3pf h3ks h3vs h3wg h3ts (bI S.2) = some (-5, pf, mn, oc, os, sd, tg, nx, nz, h0nr, h0pf, h0ks, h0vs, h0wg, h0ts, h1nr, h1pf, h1ks, h1vs, h1wg, h1ts, h2nr, h2pf, h2ks, h2vs, h2wg, h2ts, h3nr, h3pf, h3ks, h3vs, h3wg, h3ts) := by
  have hb : pf = bI S.2 := hT.2
  unfold f_X5_prefer f_X3_prefersHeaviest
  rw [if_pos (by rw [hb]; exact isB_bI _), bs, if_pos hb.symm]
theorem x_prefer (hT : RepT S (nr, pf, ks, vs, wg, ts)) (hH : RepH nx nz (h0nr, h0pf, h0ks, h0vs, h0wg, h0ts) (h1nr, h1pf, h1ks, h1vs, h1wg, h1ts) (h2nr, h2pf, h2ks, h2vs, h2wg, h2ts) (h3nr, h3pf, h3ks, h3vs, h3wg, h3ts) z Hs) (c : Bool) (hc : c ≠ S.2) : ∃ (mn2 : Int32) (oc2 os2 sd2 tg2 : Nat → Int32) (nx2 nz2 : Int32) (g0nr : Int32) (g0pf : Int32) (g0ks : Nat → Int32) (g0vs : Nat → Int32) (g0wg : Nat → Int32) (g0ts : Nat → Int32) (g1nr : Int32) (g1pf : Int32) (g1ks : Nat → Int32) (g1vs : Nat → Int32) (g1wg : Nat → Int32) (g1ts : Nat → Int32) (g2nr : Int32) (g2pf : Int32) (g2ks : Nat → Int32) (g2vs : Nat → Int32) (g2wg : Nat → Int32) (g2ts : Nat → Int32) (g3nr : Int32) (g3pf : Int32) (g3ks : Nat → Int32) (g3vs : Nat → Int32) (g3wg : Nat → Int32) (g3ts : Nat → Int32), f_X5_prefer nr pf ks vs wg ts mn oc os sd tg nx nz h0nr h0pf h0ks h0vs h0wg h0ts h1nr h1pf h1ks h1vs h1wg h1ts h2nr h2pf h2ks h2vs h2wg h2ts h3nr h3pf h3ks h3vs h3wg h3ts (bI c) = some (nI (prd (bas (Of S.1.1 S.1.2.1 S.1.2.2.2.1 c none)) 10), bI c, mn2, oc2, os2, sd2, tg2, nx2, nz2, g0nr, g0pf, g0ks, g0vs, g0wg, g0ts, g1nr, g1pf, g1ks, g1vs, g1wg, g1ts, g2nr, g2pf, g2ks, g2vs, g2wg, g2ts, g3nr, g3pf, g3ks, g3vs, g3wg, g3ts) ∧ RepT (S.1, c) (nr, bI c, ks, vs, wg, ts) ∧ RepH nx2 nz2 (g0nr, g0pf, g0ks, g0vs, g0wg, g0ts) (g1nr, g1pf, g1ks, g1vs, g1wg, g1ts) (g2nr, g2pf, g2ks, g2vs, g2wg, g2ts) (g3nr, g3pf, g3ks, g3vs, g3wg, g3ts) (nz' z) (hpush z Hs S) := by
  obtain ⟨nx2, nz2, g0nr, g0pf, g0ks, g0vs, g0wg, g0ts, g1nr, g1pf, g1ks, g1vs, g1wg, g1ts, g2nr, g2pf, g2ks, g2vs, g2wg, g2ts, g3nr, g3pf, g3ks, g3vs, g3wg, g3ts, r1, r2⟩ := rem_x hT hH
  have hb : pf = bI S.2 := hT.2
  obtain ⟨mn2, oc2, os2, sd2, tg2, q1, q2⟩ := c_choices hT.1 c oc os sd tg
  refine ⟨mn2, oc2, os2, sd2, tg2, nx2, nz2, g0nr, g0pf, g0ks, g0vs, g0wg, g0ts, g1nr, g1pf, g1ks, g1vs, g1wg, g1ts, g2nr, g2pf, g2ks, g2vs, g2wg, g2ts, g3nr, g3pf, g3ks, g3vs, g3wg, g3ts, ?_, ⟨hT.1, rfl⟩, r2⟩
  unfold f_X5_prefer f_X3_prefersHeaviest
  rw [if_pos (by rw [hb]; exact isB_bI _), bs, if_neg (fun e => hc (bI_inj.mp (e.trans hb))), r1, bs]
  try dsimp only
  unfold f_X3_setPreference f_X0_mendings
  rw [if_pos (isB_bI c), bs, q1, bs]
  try dsimp only
  rw [bs, q2.2.2.2.2]
theorem x_undoNo (h0 : z = 0) (hH : RepH nx nz (h0nr, h0pf, h0ks, h0vs, h0wg, h0ts) (h1nr, h1pf, h1ks, h1vs, h1wg, h1ts) (h2nr, h2pf, h2ks, h2vs, h2wg, h2ts) (h3nr, h3pf, h3ks, h3vs, h3wg, h3ts) z Hs) : ∃ nx2, f_X5_undo nr pf ks vs wg ts nx nz h0nr h0pf h0ks h0vs h0wg h0ts h1nr h1pf h1ks h1vs h1wg h1ts h2nr h2pf h2ks h2vs h2wg h2ts h3nr h3pf h3ks h3vs h3wg h3ts = some (-5, nr, pf, ks, vs, wg, ts, nx2, nz) ∧ RepH nx2 nz (h0nr, h0pf, h0ks, h0vs, h0wg, h0ts) (h1nr, h1pf, h1ks, h1vs, h1wg, h1ts) (h2nr, h2pf, h2ks, h2vs, h2wg, h2ts) (h3nr, h3pf, h3ks, h3vs, h3wg, h3ts) z Hs := by
  subst h0
  obtain ⟨x, hx, hz, rfl, rfl, hr⟩ := hH
  refine ⟨nI x, ?_, ⟨x, hx, hz, rfl, rfl, hr⟩⟩
  unfold f_X5_undo
  rw [c_takeNone hx h0nr h0pf h0ks h0vs h0wg h0ts h1nr h1pf h1ks h1vs h1wg h1ts h2nr h2pf h2ks h2vs h2wg h2ts h3nr h3pf h3ks h3vs h3wg h3ts nr pf ks vs wg ts, bs]
  try dsimp only
  rw [if_pos rfl]
theorem x_undo (h0 : 0 < z) (hH : RepH nx nz (h0nr, h0pf, h0ks, h0vs, h0wg, h0ts) (h1nr, h1pf, h1ks, h1vs, h1wg, h1ts) (h2nr, h2pf, h2ks, h2vs, h2wg, h2ts) (h3nr, h3pf, h3ks, h3vs, h3wg, h3ts) z Hs) : ∃ (nr2 pf2 : Int32) (ks2 vs2 wg2 ts2 : Nat → Int32) (nx2 nz2 : Int32), f_X5_undo nr pf ks vs wg ts nx nz h0nr h0pf h0ks h0vs h0wg h0ts h1nr h1pf h1ks h1vs h1wg h1ts h2nr h2pf h2ks h2vs h2wg h2ts h3nr h3pf h3ks h3vs h3wg h3ts = some (nI (z - 1), nr2, pf2, ks2, vs2, wg2, ts2, nx2, nz2) ∧ RepT (Hs (z - 1)) (nr2, pf2, ks2, vs2, wg2, ts2) ∧ RepH nx2 nz2 (h0nr, h0pf, h0ks, h0vs, h0wg, h0ts) (h1nr, h1pf, h1ks, h1vs, h1wg, h1ts) (h2nr, h2pf, h2ks, h2vs, h2wg, h2ts) (h3nr, h3pf, h3ks, h3vs, h3wg, h3ts) (z - 1) Hs := by
  obtain ⟨x, hx, hz, rfl, rfl, hr⟩ := hH
  have hsl : (x + 4 - z + (z - 1)) % 4 = (x + 3) % 4 := by omega
  have hold := hr (z - 1) (by omega)
  rw [hsl] at hold
  obtain ⟨cks, cvs, cwg, cts, r1, r2⟩ := c_takeBack hx h0 hz h0nr h0pf h0ks h0vs h0wg h0ts h1nr h1pf h1ks h1vs h1wg h1ts h2nr h2pf h2ks h2vs h2wg h2ts h3nr h3pf h3ks h3vs h3wg h3ts nr pf ks vs wg ts (fun i _ hi => by rw [hi]; exact RepT_isB hold)
  refine ⟨(sel4 (h0nr, h0pf, h0ks, h0vs, h0wg, h0ts) (h1nr, h1pf, h1ks, h1vs, h1wg, h1ts) (h2nr, h2pf, h2ks, h2vs, h2wg, h2ts) (h3nr, h3pf, h3ks, h3vs, h3wg, h3ts) ((x + 3) % 4)).1, (sel4 (h0nr, h0pf, h0ks, h0vs, h0wg, h0ts) (h1nr, h1pf, h1ks, h1vs, h1wg, h1ts) (h2nr, h2pf, h2ks, h2vs, h2wg, h2ts) (h3nr, h3pf, h3ks, h3vs, h3wg, h3ts) ((x + 3) % 4)).2.1, cks, cvs, cwg, cts, nI ((x + 3) % 4), nI (z - 1), ?_, RepT_congr (nr := (sel4 (h0nr, h0pf, h0ks, h0vs, h0wg, h0ts) (h1nr, h1pf, h1ks, h1vs, h1wg, h1ts) (h2nr, h2pf, h2ks, h2vs, h2wg, h2ts) (h3nr, h3pf, h3ks, h3vs, h3wg, h3ts) ((x + 3) % 4)).1) (pf := (sel4 (h0nr, h0pf, h0ks, h0vs, h0wg, h0ts) (h1nr, h1pf, h1ks, h1vs, h1wg, h1ts) (h2nr, h2pf, h2ks, h2vs, h2wg, h2ts) (h3nr, h3pf, h3ks, h3vs, h3wg, h3ts) ((x + 3) % 4)).2.1) (ks := (sel4 (h0nr, h0pf, h0ks, h0vs, h0wg, h0ts) (h1nr, h1pf, h1ks, h1vs, h1wg, h1ts) (h2nr, h2pf, h2ks, h2vs, h2wg, h2ts) (h3nr, h3pf, h3ks, h3vs, h3wg, h3ts) ((x + 3) % 4)).2.2.1) (vs := (sel4 (h0nr, h0pf, h0ks, h0vs, h0wg, h0ts) (h1nr, h1pf, h1ks, h1vs, h1wg, h1ts) (h2nr, h2pf, h2ks, h2vs, h2wg, h2ts) (h3nr, h3pf, h3ks, h3vs, h3wg, h3ts) ((x + 3) % 4)).2.2.2.1) (wg := (sel4 (h0nr, h0pf, h0ks, h0vs, h0wg, h0ts) (h1nr, h1pf, h1ks, h1vs, h1wg, h1ts) (h2nr, h2pf, h2ks, h2vs, h2wg, h2ts) (h3nr, h3pf, h3ks, h3vs, h3wg, h3ts) ((x + 3) % 4)).2.2.2.2.1) (ts := (sel4 (h0nr, h0pf, h0ks, h0vs, h0wg, h0ts) (h1nr, h1pf, h1ks, h1vs, h1wg, h1ts) (h2nr, h2pf, h2ks, h2vs, h2wg, h2ts) (h3nr, h3pf, h3ks, h3vs, h3wg, h3ts) ((x + 3) % 4)).2.2.2.2.2) hold r2, ⟨(x + 3) % 4, by omega, by omega, rfl, rfl, fun i hi => ?_⟩⟩
  · unfold f_X5_undo
    rw [r1, bs]
    try dsimp only
    unfold f_X1_size
    rw [if_neg (by decide), bs]
  · have hs2 : ((x + 3) % 4 + 4 - (z - 1) + i) % 4 = (x + 4 - z + i) % 4 := by omega
    rw [hs2]
    exact hr i (by omega)
end ACTX
