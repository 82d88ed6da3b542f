/-! the acts: both sides answer alike, and their states stay alike -/
theorem kl_id {p : Nat → Bool} {n : Nat} (h : (kl p n).length = n) : ∀ j, j < n → (kl p n).getD j 0 = j := by
  intro j hj
  rw [kl_len] at h
  rw [kl_all (cntP_all.mp h)]
  exact range_getD hj
theorem MF_pf {n : Nat} {K V G T : Nat → Nat} {b : Bool} {al : Nat → Int32} (h : MF n K V G T b al) (c : Bool) : MF n K V G T c (upd al 1 (bI c)) := by
  obtain ⟨h1, h0, h2, h3⟩ := h
  have key : ∀ k, k ≠ 1 → upd al 1 (bI c) k = al k := fun k hk => by
    unfold upd
    rw [if_neg hk]
  refine ⟨by rw [key 0 (by omega)]; exact h1, by unfold upd; rw [if_pos rfl], h2, fun j hj => ?_⟩
  rw [key _ (by omega), key _ (by omega), key _ (by omega), key _ (by omega)]
  exact h3 j hj
theorem bI_inj {b c : Bool} : bI b = bI c ↔ b = c := by cases b <;> cases c <;> decide
def SN (sk snr spf : Int32) (sks svs swg sts : Nat → Int32) (tk : Int32) (sn : Nat → Int32) : Prop := (sk = 0 ∧ tk = 0) ∨ (sk = 1 ∧ tk = 1 ∧ RelT snr spf sks svs swg sts sn)
section ACTS
variable {nr pf nx nz hlg : Int32} {ks vs wg ts al hi : Nat → Int32} {h0nr : Int32} {h0pf : Int32} {h0ks : Nat → Int32} {h0vs : Nat → Int32} {h0wg : Nat → Int32} {h0ts : Nat → Int32} {h1nr : Int32} {h1pf : Int32} {h1ks : Nat → Int32} {h1vs : Nat → Int32} {h1wg : Nat → Int32} {h1ts : Nat → Int32} {h2nr : Int32} {h2pf : Int32} {h2ks : Nat → Int32} {h2vs : Nat → Int32} {h2wg : Nat → Int32} {h2ts : Nat → Int32} {h3nr : Int32} {h3pf : Int32} {h3ks : Nat → Int32} {h3vs : Nat → Int32} {h3wg : Nat → Int32} {h3ts : Nat → Int32}
theorem s_add (hR : RelT nr pf ks vs wg ts al) (hH : HR nx nz hlg (h0nr, h0pf, h0ks, h0vs, h0wg, h0ts) (h1nr, h1pf, h1ks, h1vs, h1wg, h1ts) (h2nr, h2pf, h2ks, h2vs, h2wg, h2ts) (h3nr, h3pf, h3ks, h3vs, h3wg, h3ts) hi) (sv : Nat → Int32) (p0 p1 p2 p3 : Int32) :
    ∃ out a_nr a_ks a_vs a_wg a_ts a_nx a_nz a_h0nr a_h0pf a_h0ks a_h0vs a_h0wg a_h0ts a_h1nr a_h1pf a_h1ks a_h1vs a_h1wg a_h1ts a_h2nr a_h2pf a_h2ks a_h2vs a_h2wg a_h2ts a_h3nr a_h3pf a_h3ks a_h3vs a_h3wg a_h3ts b_hlg b_al b_sv b_hi, f_X5_add nr pf ks vs wg ts nx nz h0nr h0pf h0ks h0vs h0wg h0ts h1nr h1pf h1ks h1vs h1wg h1ts h2nr h2pf h2ks h2vs h2wg h2ts h3nr h3pf h3ks h3vs h3wg h3ts p0 p1 p2 p3 = some (out, a_nr, a_ks, a_vs, a_wg, a_ts, a_nx, a_nz, a_h0nr, a_h0pf, a_h0ks, a_h0vs, a_h0wg, a_h0ts, a_h1nr, a_h1pf, a_h1ks, a_h1vs, a_h1wg, a_h1ts, a_h2nr, a_h2pf, a_h2ks, a_h2vs, a_h2wg, a_h2ts, a_h3nr, a_h3pf, a_h3ks, a_h3vs, a_h3wg, a_h3ts) ∧ f_X6_add hlg al sv hi p0 p1 p2 p3 = some (out, b_hlg, b_al, b_sv, b_hi) ∧ RelT a_nr pf a_ks a_vs a_wg a_ts b_al ∧ HR a_nx a_nz b_hlg (a_h0nr, a_h0pf, a_h0ks, a_h0vs, a_h0wg, a_h0ts) (a_h1nr, a_h1pf, a_h1ks, a_h1vs, a_h1wg, a_h1ts) (a_h2nr, a_h2pf, a_h2ks, a_h2vs, a_h2wg, a_h2ts) (a_h3nr, a_h3pf, a_h3ks, a_h3vs, a_h3wg, a_h3ts) b_hi := by
  obtain ⟨n, K, V, G, T, b, hT, hb, hM⟩ := id hR
  have hn := hT.2.1
  obtain ⟨nx2, nz2, g0nr, g0pf, g0ks, g0vs, g0wg, g0ts, g1nr, g1pf, g1ks, g1vs, g1wg, g1ts, g2nr, g2pf, g2ks, g2vs, g2wg, g2ts, g3nr, g3pf, g3ks, g3vs, g3wg, g3ts, sv2, r1, m1, m2, hact⟩ := act_both hH hR sv
  unfold f_X5_add f_X6_add
  rw [c_isKey, m_isKey, bs, bs]
  cases hd0 : dB p0 10 with
  | false =>
    rw [if_pos (show bI false = 0 from rfl), if_pos (show bI false = 0 from rfl)]
    exact ⟨_, _, _, _, _, _, _, _, _, _, _, _, _, _, _, _, _, _, _, _, _, _, _, _, _, _, _, _, _, _, _, _, _, _, _, _, rfl, rfl, hR, hH⟩
  | true =>
    obtain ⟨k, hk10, rfl⟩ := dB_of hd0 (by omega)
    rw [if_neg (show ¬ bI true = 0 by decide), if_neg (show ¬ bI true = 0 by decide), c_isKey, m_isKey, bs, bs]
    cases hd3 : dB p3 10 with
    | false =>
      rw [if_pos (show bI false = 0 from rfl), if_pos (show bI false = 0 from rfl)]
      by_cases e5 : p3 = -5
      · subst e5
        rw [if_pos rfl, if_pos rfl]
        rw [c_isValue, m_isValue, bs, bs]
        cases hv : vB p1 with
        | false =>
          rw [if_pos (show bI false = 0 from rfl), if_pos (show bI false = 0 from rfl)]
          exact ⟨_, _, _, _, _, _, _, _, _, _, _, _, _, _, _, _, _, _, _, _, _, _, _, _, _, _, _, _, _, _, _, _, _, _, _, _, rfl, rfl, hR, hH⟩
        | true =>
          obtain ⟨v, hv8, rfl⟩ := vB_of hv
          rw [if_neg (show ¬ bI true = 0 by decide), if_neg (show ¬ bI true = 0 by decide), in_99, bs]
          cases hg : dB p2 100 with
          | false =>
            have hg2 := of_decide_eq_false hg
            rw [if_pos (show bI false = 0 from rfl)]
            by_cases e : p2 < 0
            · rw [if_pos e]
              exact ⟨_, _, _, _, _, _, _, _, _, _, _, _, _, _, _, _, _, _, _, _, _, _, _, _, _, _, _, _, _, _, _, _, _, _, _, _, rfl, rfl, hR, hH⟩
            · rw [if_neg e, if_neg (by rw [Int32.lt_iff_toInt_lt, show (0 : Int32).toInt = 0 from by decide] at e; rw [Int32.le_iff_toInt_le, show (99 : Int32).toInt = 99 from by decide]; omega)]
              exact ⟨_, _, _, _, _, _, _, _, _, _, _, _, _, _, _, _, _, _, _, _, _, _, _, _, _, _, _, _, _, _, _, _, _, _, _, _, rfl, rfl, hR, hH⟩
          | true =>
            obtain ⟨g, hg', rfl⟩ := dB_of hg (by omega)
            rw [if_neg (nI_pos (by omega)), if_pos (show nI g ≤ 99 from nI_le (b := 99) (by omega) (by omega)), if_neg (show ¬ bI true = 0 by decide), c_room hT, bs]
            by_cases en : n = 20
            · rw [if_neg (show ¬ 1 ≤ nI (20 - n) by rw [en]; decide), if_pos (show al 0 = 20 by rw [hM.1, en]; rfl)]
              exact ⟨_, _, _, _, _, _, _, _, _, _, _, _, _, _, _, _, _, _, _, _, _, _, _, _, _, _, _, _, _, _, _, _, _, _, _, _, rfl, rfl, hR, hH⟩
            · obtain ⟨ks', vs', wg', ts', a1, a2⟩ := c_append hT (by omega) (k := k) (v := v) (g := g) (t := 10) hk10 hv8 (by omega) (by omega)
              obtain ⟨al', p1', p2'⟩ := m_puts hM (by omega) (k := k) (v := v) (g := g) (t := 10) hk10 hv8 (by omega) (by omega)
              rw [show tI 10 = -5 from rfl] at a1 p1'
              rw [if_pos (show 1 ≤ nI (20 - n) from nI_le (a := 1) (by omega) (by omega)), if_neg (show ¬ al 0 = 20 by rw [hM.1]; exact fun z => en ((nI_eq (b := 20) (by omega) (by omega)).mp z)), r1, m1, bs, bs]
              try dsimp only
              rw [show nI (97 + v) - 97 = nI v from by rw [s97 (by omega)]; exact nI_ext (by omega), a1, p1', bs, bs]
              try dsimp only
              unfold f_X3_size
              obtain ⟨hi2, c1, c2⟩ := hact (al' 0 - 1)
              rw [bs, c1, bs, p2'.1]
              exact ⟨_, _, _, _, _, _, _, _, _, _, _, _, _, _, _, _, _, _, _, _, _, _, _, _, _, _, _, _, _, _, _, _, _, _, _, _, rfl, rfl, ⟨n + 1, _, _, _, _, b, a2, hb, p2'⟩, c2⟩
      · rw [if_neg e5, if_neg e5]
        exact ⟨_, _, _, _, _, _, _, _, _, _, _, _, _, _, _, _, _, _, _, _, _, _, _, _, _, _, _, _, _, _, _, _, _, _, _, _, rfl, rfl, hR, hH⟩
    | true =>
      obtain ⟨t, ht, rfl⟩ := dB_of hd3 (by omega)
      rw [if_neg (show ¬ bI true = 0 by decide), if_neg (show ¬ bI true = 0 by decide)]
      rw [c_isValue, m_isValue, bs, bs]
      cases hv : vB p1 with
      | false =>
        rw [if_pos (show bI false = 0 from rfl), if_pos (show bI false = 0 from rfl)]
        exact ⟨_, _, _, _, _, _, _, _, _, _, _, _, _, _, _, _, _, _, _, _, _, _, _, _, _, _, _, _, _, _, _, _, _, _, _, _, rfl, rfl, hR, hH⟩
      | true =>
        obtain ⟨v, hv8, rfl⟩ := vB_of hv
        rw [if_neg (show ¬ bI true = 0 by decide), if_neg (show ¬ bI true = 0 by decide), in_99, bs]
        cases hg : dB p2 100 with
        | false =>
          have hg2 := of_decide_eq_false hg
          rw [if_pos (show bI false = 0 from rfl)]
          by_cases e : p2 < 0
          · rw [if_pos e]
            exact ⟨_, _, _, _, _, _, _, _, _, _, _, _, _, _, _, _, _, _, _, _, _, _, _, _, _, _, _, _, _, _, _, _, _, _, _, _, rfl, rfl, hR, hH⟩
          · rw [if_neg e, if_neg (by rw [Int32.lt_iff_toInt_lt, show (0 : Int32).toInt = 0 from by decide] at e; rw [Int32.le_iff_toInt_le, show (99 : Int32).toInt = 99 from by decide]; omega)]
            exact ⟨_, _, _, _, _, _, _, _, _, _, _, _, _, _, _, _, _, _, _, _, _, _, _, _, _, _, _, _, _, _, _, _, _, _, _, _, rfl, rfl, hR, hH⟩
        | true =>
          obtain ⟨g, hg', rfl⟩ := dB_of hg (by omega)
          rw [if_neg (nI_pos (by omega)), if_pos (show nI g ≤ 99 from nI_le (b := 99) (by omega) (by omega)), if_neg (show ¬ bI true = 0 by decide), c_room hT, bs]
          by_cases en : n = 20
          · rw [if_neg (show ¬ 1 ≤ nI (20 - n) by rw [en]; decide), if_pos (show al 0 = 20 by rw [hM.1, en]; rfl)]
            exact ⟨_, _, _, _, _, _, _, _, _, _, _, _, _, _, _, _, _, _, _, _, _, _, _, _, _, _, _, _, _, _, _, _, _, _, _, _, rfl, rfl, hR, hH⟩
          · obtain ⟨ks', vs', wg', ts', a1, a2⟩ := c_append hT (by omega) (k := k) (v := v) (g := g) (t := t) hk10 hv8 (by omega) (by omega)
            obtain ⟨al', p1', p2'⟩ := m_puts hM (by omega) (k := k) (v := v) (g := g) (t := t) hk10 hv8 (by omega) (by omega)
            rw [tI_lt ht] at a1 p1'
            rw [if_pos (show 1 ≤ nI (20 - n) from nI_le (a := 1) (by omega) (by omega)), if_neg (show ¬ al 0 = 20 by rw [hM.1]; exact fun z => en ((nI_eq (b := 20) (by omega) (by omega)).mp z)), r1, m1, bs, bs]
            try dsimp only
            rw [show nI (97 + v) - 97 = nI v from by rw [s97 (by omega)]; exact nI_ext (by omega), a1, p1', bs, bs]
            try dsimp only
            unfold f_X3_size
            obtain ⟨hi2, c1, c2⟩ := hact (al' 0 - 1)
            rw [bs, c1, bs, p2'.1]
            exact ⟨_, _, _, _, _, _, _, _, _, _, _, _, _, _, _, _, _, _, _, _, _, _, _, _, _, _, _, _, _, _, _, _, _, _, _, _, rfl, rfl, ⟨n + 1, _, _, _, _, b, a2, hb, p2'⟩, c2⟩
theorem s_remove (hR : RelT nr pf ks vs wg ts al) (hH : HR nx nz hlg (h0nr, h0pf, h0ks, h0vs, h0wg, h0ts) (h1nr, h1pf, h1ks, h1vs, h1wg, h1ts) (h2nr, h2pf, h2ks, h2vs, h2wg, h2ts) (h3nr, h3pf, h3ks, h3vs, h3wg, h3ts) hi) (sv : Nat → Int32) (p0 : Int32) :
    ∃ out a_nr a_ks a_vs a_wg a_ts a_nx a_nz a_h0nr a_h0pf a_h0ks a_h0vs a_h0wg a_h0ts a_h1nr a_h1pf a_h1ks a_h1vs a_h1wg a_h1ts a_h2nr a_h2pf a_h2ks a_h2vs a_h2wg a_h2ts a_h3nr a_h3pf a_h3ks a_h3vs a_h3wg a_h3ts b_hlg b_al b_sv b_hi, f_X5_remove nr pf ks vs wg ts nx nz h0nr h0pf h0ks h0vs h0wg h0ts h1nr h1pf h1ks h1vs h1wg h1ts h2nr h2pf h2ks h2vs h2wg h2ts h3nr h3pf h3ks h3vs h3wg h3ts p0 = some (out, a_nr, a_ks, a_vs, a_wg, a_ts, a_nx, a_nz, a_h0nr, a_h0pf, a_h0ks, a_h0vs, a_h0wg, a_h0ts, a_h1nr, a_h1pf, a_h1ks, a_h1vs, a_h1wg, a_h1ts, a_h2nr, a_h2pf, a_h2ks, a_h2vs, a_h2wg, a_h2ts, a_h3nr, a_h3pf, a_h3ks, a_h3vs, a_h3wg, a_h3ts) ∧ f_X6_remove hlg al sv hi p0 = some (out, b_hlg, b_al, b_sv, b_hi) ∧ RelT a_nr pf a_ks a_vs a_wg a_ts b_al ∧ HR a_nx a_nz b_hlg (a_h0nr, a_h0pf, a_h0ks, a_h0vs, a_h0wg, a_h0ts) (a_h1nr, a_h1pf, a_h1ks, a_h1vs, a_h1wg, a_h1ts) (a_h2nr, a_h2pf, a_h2ks, a_h2vs, a_h2wg, a_h2ts) (a_h3nr, a_h3pf, a_h3ks, a_h3vs, a_h3wg, a_h3ts) b_hi := by
  obtain ⟨n, K, V, G, T, b, hT, hb, hM⟩ := id hR
  have hn := hT.2.1
  obtain ⟨nx2, nz2, g0nr, g0pf, g0ks, g0vs, g0wg, g0ts, g1nr, g1pf, g1ks, g1vs, g1wg, g1ts, g2nr, g2pf, g2ks, g2vs, g2wg, g2ts, g3nr, g3pf, g3ks, g3vs, g3wg, g3ts, sv2, r1, m1, m2, hact⟩ := act_both hH hR sv
  unfold f_X5_remove f_X6_remove
  rw [c_has hT, hM.isRow, bs, bs]
  cases hd0 : dB p0 n with
  | false =>
    rw [if_pos (show bI false = 0 from rfl), if_pos (show bI false = 0 from rfl)]
    exact ⟨_, _, _, _, _, _, _, _, _, _, _, _, _, _, _, _, _, _, _, _, _, _, _, _, _, _, _, _, _, _, _, _, _, _, _, _, rfl, rfl, hR, hH⟩
  | true =>
    obtain ⟨j, hj, rfl⟩ := dB_of hd0 (by omega)
    obtain ⟨ks', vs', wg', ts', a1, a2⟩ := c_drop hT hj
    obtain ⟨al', q1, q2⟩ := m_takesOut hM hj
    obtain ⟨hi2, c1, c2⟩ := hact (al' 0)
    rw [if_neg (show ¬ bI true = 0 by decide), if_neg (show ¬ bI true = 0 by decide), r1, m1, bs, bs]
    try dsimp only
    rw [a1, q1, bs, bs]
    try dsimp only
    unfold f_X3_size
    rw [bs, c1, bs, q2.1]
    exact ⟨_, _, _, _, _, _, _, _, _, _, _, _, _, _, _, _, _, _, _, _, _, _, _, _, _, _, _, _, _, _, _, _, _, _, _, _, rfl, rfl, ⟨n - 1, _, _, _, _, b, a2, hb, q2⟩, c2⟩
theorem s_mend (hR : RelT nr pf ks vs wg ts al) (hH : HR nx nz hlg (h0nr, h0pf, h0ks, h0vs, h0wg, h0ts) (h1nr, h1pf, h1ks, h1vs, h1wg, h1ts) (h2nr, h2pf, h2ks, h2vs, h2wg, h2ts) (h3nr, h3pf, h3ks, h3vs, h3wg, h3ts) hi) (sv : Nat → Int32) (p0 : Int32) :
    ∃ out a_nr a_ks a_vs a_wg a_ts a_nx a_nz a_h0nr a_h0pf a_h0ks a_h0vs a_h0wg a_h0ts a_h1nr a_h1pf a_h1ks a_h1vs a_h1wg a_h1ts a_h2nr a_h2pf a_h2ks a_h2vs a_h2wg a_h2ts a_h3nr a_h3pf a_h3ks a_h3vs a_h3wg a_h3ts b_hlg b_al b_sv b_hi, f_X5_mend nr pf ks vs wg ts nx nz h0nr h0pf h0ks h0vs h0wg h0ts h1nr h1pf h1ks h1vs h1wg h1ts h2nr h2pf h2ks h2vs h2wg h2ts h3nr h3pf h3ks h3vs h3wg h3ts p0 = some (out, a_nr, a_ks, a_vs, a_wg, a_ts, a_nx, a_nz, a_h0nr, a_h0pf, a_h0ks, a_h0vs, a_h0wg, a_h0ts, a_h1nr, a_h1pf, a_h1ks, a_h1vs, a_h1wg, a_h1ts, a_h2nr, a_h2pf, a_h2ks, a_h2vs, a_h2wg, a_h2ts, a_h3nr, a_h3pf, a_h3ks, a_h3vs, a_h3wg, a_h3ts) ∧ f_X6_mend hlg al sv hi p0 = some (out, b_hlg, b_al, b_sv, b_hi) ∧ RelT a_nr pf a_ks a_vs a_wg a_ts b_al ∧ HR a_nx a_nz b_hlg (a_h0nr, a_h0pf, a_h0ks, a_h0vs, a_h0wg, a_h0ts) (a_h1nr, a_h1pf, a_h1ks, a_h1vs, a_h1wg, a_h1ts) (a_h2nr, a_h2pf, a_h2ks, a_h2vs, a_h2wg, a_h2ts) (a_h3nr, a_h3pf, a_h3ks, a_h3vs, a_h3wg, a_h3ts) b_hi := by
  obtain ⟨n, K, V, G, T, b, hT, hb, hM⟩ := id hR
  have hn := hT.2.1
  obtain ⟨nx2, nz2, g0nr, g0pf, g0ks, g0vs, g0wg, g0ts, g1nr, g1pf, g1ks, g1vs, g1wg, g1ts, g2nr, g2pf, g2ks, g2vs, g2wg, g2ts, g3nr, g3pf, g3ks, g3vs, g3wg, g3ts, sv2, r1, m1, m2, hact⟩ := act_both hH hR sv
  unfold f_X5_mend f_X6_mend
  rw [c_has hT, hM.isRow, bs, bs]
  cases hd0 : dB p0 n with
  | false =>
    rw [if_pos (show bI false = 0 from rfl), if_pos (show bI false = 0 from rfl)]
    exact ⟨_, _, _, _, _, _, _, _, _, _, _, _, _, _, _, _, _, _, _, _, _, _, _, _, _, _, _, _, _, _, _, _, _, _, _, _, rfl, rfl, hR, hH⟩
  | true =>
    obtain ⟨j, hj, rfl⟩ := dB_of hd0 (by omega)
    obtain ⟨ks', vs', wg', ts', a1, a2⟩ := c_dropOthers hT hj
    obtain ⟨al', q1, q2⟩ := m_mends hM hj
    have hKj := (hT.2.2 j hj).2.2.2.2.1
    have hlen := kl_cnt (K := K) hj
    have hcl := cntP_le (fun i => K i == K j) n
    have hll : (kl (kpB K j) n).length ≤ n := by rw [kl_len]; exact cntP_le _ n
    rw [if_neg (show ¬ bI true = 0 by decide), if_neg (show ¬ bI true = 0 by decide), hT.keyAt hj, bs, hT.rowsWith _ hKj, bs, m1, bs, q1, bs]
    try dsimp only
    by_cases ec : cntP (fun i => K i == K j) n = 1
    · have hl2 : (kl (kpB K j) n).length = n := by omega
      rw [if_pos (show nI (cntP (fun i => K i == K j) n) - 1 = 0 by rw [ec]; decide), if_pos (show nI (n - (kl (kpB K j) n).length) = 0 by rw [hl2, Nat.sub_self]; rfl)]
      have hid := kl_id hl2
      rw [hl2] at q2
      refine ⟨_, _, _, _, _, _, _, _, _, _, _, _, _, _, _, _, _, _, _, _, _, _, _, _, _, _, _, _, _, _, _, _, _, _, _, _, rfl, rfl, ⟨n, K, V, G, T, b, hT, hb, MF_ext q2 (fun i hi => ?_)⟩, hH⟩
      unfold selF
      rw [hid i hi]
      exact ⟨rfl, rfl, rfl, rfl⟩
    · have hsub : nI (cntP (fun i => K i == K j) n) - 1 = nI (cntP (fun i => K i == K j) n - 1) := nI_subO (b := 1) (by omega)
      have heq : n - (kl (kpB K j) n).length = cntP (fun i => K i == K j) n - 1 := by omega
      obtain ⟨hi2, c1, c2⟩ := hact (nI (cntP (fun i => K i == K j) n - 1))
      rw [hsub, heq, if_neg (nI_ne0 (by omega) (by omega)), if_neg (nI_ne0 (by omega) (by omega)), r1, bs]
      try dsimp only
      rw [a1, bs, c1, bs]
      exact ⟨_, _, _, _, _, _, _, _, _, _, _, _, _, _, _, _, _, _, _, _, _, _, _, _, _, _, _, _, _, _, _, _, _, _, _, _, rfl, rfl, ⟨_, _, _, _, _, b, a2, hb, q2⟩, c2⟩
theorem s_mendAll (hR : RelT nr pf ks vs wg ts al) (hH : HR nx nz hlg (h0nr, h0pf, h0ks, h0vs, h0wg, h0ts) (h1nr, h1pf, h1ks, h1vs, h1wg, h1ts) (h2nr, h2pf, h2ks, h2vs, h2wg, h2ts) (h3nr, h3pf, h3ks, h3vs, h3wg, h3ts) hi) (sv : Nat → Int32) (p0 : Int32) :
    ∃ out a_nr a_ks a_vs a_wg a_ts a_nx a_nz a_h0nr a_h0pf a_h0ks a_h0vs a_h0wg a_h0ts a_h1nr a_h1pf a_h1ks a_h1vs a_h1wg a_h1ts a_h2nr a_h2pf a_h2ks a_h2vs a_h2wg a_h2ts a_h3nr a_h3pf a_h3ks a_h3vs a_h3wg a_h3ts b_hlg b_al b_sv b_hi, f_X5_mendAll nr pf ks vs wg ts nx nz h0nr h0pf h0ks h0vs h0wg h0ts h1nr h1pf h1ks h1vs h1wg h1ts h2nr h2pf h2ks h2vs h2wg h2ts h3nr h3pf h3ks h3vs h3wg h3ts p0 = some (out, a_nr, a_ks, a_vs, a_wg, a_ts, a_nx, a_nz, a_h0nr, a_h0pf, a_h0ks, a_h0vs, a_h0wg, a_h0ts, a_h1nr, a_h1pf, a_h1ks, a_h1vs, a_h1wg, a_h1ts, a_h2nr, a_h2pf, a_h2ks, a_h2vs, a_h2wg, a_h2ts, a_h3nr, a_h3pf, a_h3ks, a_h3vs, a_h3wg, a_h3ts) ∧ f_X6_mendAll hlg al sv hi p0 = some (out, b_hlg, b_al, b_sv, b_hi) ∧ RelT a_nr pf a_ks a_vs a_wg a_ts b_al ∧ HR a_nx a_nz b_hlg (a_h0nr, a_h0pf, a_h0ks, a_h0vs, a_h0wg, a_h0ts) (a_h1nr, a_h1pf, a_h1ks, a_h1vs, a_h1wg, a_h1ts) (a_h2nr, a_h2pf, a_h2ks, a_h2vs, a_h2wg, a_h2ts) (a_h3nr, a_h3pf, a_h3ks, a_h3vs, a_h3wg, a_h3ts) b_hi := by
  obtain ⟨n, K, V, G, T, b, hT, hb, hM⟩ := id hR
  have hn := hT.2.1
  obtain ⟨nx2, nz2, g0nr, g0pf, g0ks, g0vs, g0wg, g0ts, g1nr, g1pf, g1ks, g1vs, g1wg, g1ts, g2nr, g2pf, g2ks, g2vs, g2wg, g2ts, g3nr, g3pf, g3ks, g3vs, g3wg, g3ts, sv2, r1, m1, m2, hact⟩ := act_both hH hR sv
  unfold f_X5_mendAll f_X6_mendAll
  rw [in_2, bs]
  cases hw : dB p0 3 with
  | false =>
    have hg2 := of_decide_eq_false hw
    rw [if_pos (show bI false = 0 from rfl)]
    by_cases e : p0 < 0
    · rw [if_pos e]
      exact ⟨_, _, _, _, _, _, _, _, _, _, _, _, _, _, _, _, _, _, _, _, _, _, _, _, _, _, _, _, _, _, _, _, _, _, _, _, rfl, rfl, hR, hH⟩
    · rw [if_neg e, if_neg (by rw [Int32.lt_iff_toInt_lt, show (0 : Int32).toInt = 0 from by decide] at e; rw [Int32.le_iff_toInt_le, show (2 : Int32).toInt = 2 from by decide]; omega)]
      exact ⟨_, _, _, _, _, _, _, _, _, _, _, _, _, _, _, _, _, _, _, _, _, _, _, _, _, _, _, _, _, _, _, _, _, _, _, _, rfl, rfl, hR, hH⟩
  | true =>
    obtain ⟨w, hw3, rfl⟩ := dB_of hw (by omega)
    have a1 : f_X3_doubledKeys nr ks = some (nI (cntP (fun k => decide (2 ≤ cntP (fun j => K j == k) n)) 10)) := by
      unfold f_X3_doubledKeys
      rw [show (2 : Int32) = nI 2 from rfl, hT.keysWith 2 (by omega), bs]
    have hcl := cntP_le (fun k => decide (2 ≤ cntP (fun j => K j == k) n)) 10
    have hTa : TFa (n, K, V, G, T) nr ks vs wg ts := hT
    have hMa : MFa (n, K, V, G, T) b al := hM
    have hle := mit_le (w := w) (A := (n, K, V, G, T)) 10
    obtain ⟨al', q1, q2⟩ := m_mendLoop hMa hw3 hlg hi sv2
    rw [if_neg (nI_pos (by omega)), if_pos (show nI w ≤ 2 from nI_le (b := 2) (by omega) (by omega)), if_neg (show ¬ bI true = 0 by decide), a1, bs, m1, bs, q1]
    by_cases ed : cntP (fun k => decide (2 ≤ cntP (fun j => K j == k) n)) 10 = 0
    · have hall : ∀ k, k < 10 → cntK (n, K, V, G, T) k ≤ 1 := by
        intro k hk
        rcases Nat.lt_or_ge 1 (cntK (n, K, V, G, T) k) with z | z
        · have : 0 < cntP (fun k => decide (2 ≤ cntP (fun j => K j == k) n)) 10 := cntP_pos.mpr ⟨k, hk, decide_eq_true z⟩
          omega
        · exact z
      obtain ⟨s1, s2⟩ := mit_all (w := w) hall 10 (Nat.le_refl _)
      have hz : nI ((n, K, V, G, T) : AT).1 - nI ((n, K, V, G, T) : AT).1 = 0 := Int32.sub_self _
      rw [ed, if_pos (show nI 0 = 0 from rfl), if_pos (show nI (((n, K, V, G, T) : AT).1 - (mit w (n, K, V, G, T) 10).1) = 0 by rw [s1, Nat.sub_self]; rfl)]
      have q3 : MFa (n, K, V, G, T) b al' := MFa_same q2 s1.symm (fun j hj => by
        have z := s2 j (by rw [← s1]; exact hj)
        exact ⟨z.1.symm, z.2.1.symm, z.2.2.1.symm, z.2.2.2.symm⟩)
      exact ⟨_, _, _, _, _, _, _, _, _, _, _, _, _, _, _, _, _, _, _, _, _, _, _, _, _, _, _, _, _, _, _, _, _, _, _, _, rfl, rfl, ⟨n, K, V, G, T, b, hT, hb, q3⟩, hH⟩
    · have hne : (mit w (n, K, V, G, T) 10).1 ≠ n := by
        intro e
        have hno := (mit_none (w := w) (A := (n, K, V, G, T)) 10 e).2
        refine ed ?_
        rcases Nat.eq_zero_or_pos (cntP (fun k => decide (2 ≤ cntP (fun j => K j == k) n)) 10) with z | z
        · exact z
        · obtain ⟨k, hk, hk2⟩ := cntP_pos.mp z
          have z1 := of_decide_eq_true hk2
          have z2 : cntP (fun j => K j == k) n ≤ 1 := hno k hk
          omega
      have hle2 : (mit w (n, K, V, G, T) 10).1 ≤ n := hle
      have hnz : ¬ nI (((n, K, V, G, T) : AT).1 - (mit w (n, K, V, G, T) 10).1) = 0 := nI_ne0 (show 0 < n - (mit w (n, K, V, G, T) 10).1 by omega) (show n - (mit w (n, K, V, G, T) 10).1 < 2 ^ 31 by omega)
      obtain ⟨nr', ks', vs', wg', ts', l1, l2⟩ := c_mendLoop hTa hw3 nx2 nz2 g0nr g0pf g0ks g0vs g0wg g0ts g1nr g1pf g1ks g1vs g1wg g1ts g2nr g2pf g2ks g2vs g2wg g2ts g3nr g3pf g3ks g3vs g3wg g3ts
      obtain ⟨hi2, c1, c2⟩ := hact (nI (((n, K, V, G, T) : AT).1 - (mit w (n, K, V, G, T) 10).1))
      rw [if_neg (nI_ne0 (by omega) (by omega)), if_neg hnz, r1, bs, c1, bs]
      try dsimp only
      unfold f_X3_size
      rw [bs, hT.1]
      rw [hT.1] at l1
      rw [show nI n = nI ((n, K, V, G, T) : AT).1 from rfl] at l1 ⊢
      rw [l1]
      exact ⟨_, _, _, _, _, _, _, _, _, _, _, _, _, _, _, _, _, _, _, _, _, _, _, _, _, _, _, _, _, _, _, _, _, _, _, _, rfl, rfl, ⟨_, _, _, _, _, b, l2, hb, q2⟩, c2⟩
theorem s_prefer (hR : RelT nr pf ks vs wg ts al) (hH : HR nx nz hlg (h0nr, h0pf, h0ks, h0vs, h0wg, h0ts) (h1nr, h1pf, h1ks, h1vs, h1wg, h1ts) (h2nr, h2pf, h2ks, h2vs, h2wg, h2ts) (h3nr, h3pf, h3ks, h3vs, h3wg, h3ts) hi) (mn : Int32) (oc os sd tg ch my sv : Nat → Int32) (p0 : Int32) (hp0 : isB p0) :
    ∃ out a_pf a_mn a_oc a_os a_sd a_tg a_nx a_nz a_h0nr a_h0pf a_h0ks a_h0vs a_h0wg a_h0ts a_h1nr a_h1pf a_h1ks a_h1vs a_h1wg a_h1ts a_h2nr a_h2pf a_h2ks a_h2vs a_h2wg a_h2ts a_h3nr a_h3pf a_h3ks a_h3vs a_h3wg a_h3ts b_hlg b_al b_sv b_hi b_ch b_my, f_X5_prefer nr pf ks vs wg ts mn oc os sd tg nx nz h0nr h0pf h0ks h0vs h0wg h0ts h1nr h1pf h1ks h1vs h1wg h1ts h2nr h2pf h2ks h2vs h2wg h2ts h3nr h3pf h3ks h3vs h3wg h3ts p0 = some (out, a_pf, a_mn, a_oc, a_os, a_sd, a_tg, a_nx, a_nz, a_h0nr, a_h0pf, a_h0ks, a_h0vs, a_h0wg, a_h0ts, a_h1nr, a_h1pf, a_h1ks, a_h1vs, a_h1wg, a_h1ts, a_h2nr, a_h2pf, a_h2ks, a_h2vs, a_h2wg, a_h2ts, a_h3nr, a_h3pf, a_h3ks, a_h3vs, a_h3wg, a_h3ts) ∧ f_X6_prefer hlg (-5) al sv hi ch my p0 = some (out, b_hlg, b_al, b_sv, b_hi, b_ch, b_my) ∧ RelT nr a_pf ks vs wg ts b_al ∧ HR a_nx a_nz b_hlg (a_h0nr, a_h0pf, a_h0ks, a_h0vs, a_h0wg, a_h0ts) (a_h1nr, a_h1pf, a_h1ks, a_h1vs, a_h1wg, a_h1ts) (a_h2nr, a_h2pf, a_h2ks, a_h2vs, a_h2wg, a_h2ts) (a_h3nr, a_h3pf, a_h3ks, a_h3vs, a_h3wg, a_h3ts) b_hi := by
  obtain ⟨n, K, V, G, T, b, hT, hb, hM⟩ := id hR
  have hn := hT.2.1
  obtain ⟨nx2, nz2, g0nr, g0pf, g0ks, g0vs, g0wg, g0ts, g1nr, g1pf, g1ks, g1vs, g1wg, g1ts, g2nr, g2pf, g2ks, g2vs, g2wg, g2ts, g3nr, g3pf, g3ks, g3vs, g3wg, g3ts, sv2, r1, m1, m2, hact⟩ := act_both hH hR sv
  obtain ⟨c, rfl⟩ : ∃ c, p0 = bI c := by
    rcases hp0 with e | e
    · exact ⟨false, e⟩
    · exact ⟨true, e⟩
  unfold f_X5_prefer f_X6_prefer
  have hx : (if bI c = 0 then some (0 : Int32) else some 1) = some (bI c) := by cases c <;> rfl
  unfold f_X3_prefersHeaviest
  rw [if_pos (isB_of hb), bs, hx, bs, hM.2.1, hb]
  by_cases e : c = b
  · rw [if_pos (by rw [e]), if_pos (by rw [e])]
    rw [hb] at hR
    exact ⟨_, _, _, _, _, _, _, _, _, _, _, _, _, _, _, _, _, _, _, _, _, _, _, _, _, _, _, _, _, _, _, _, _, _, _, _, _, _, _, rfl, rfl, hR, hH⟩
  · obtain ⟨mn', oc', os', sd', tg', q1, q2⟩ := c_choices hT c oc os sd tg
    obtain ⟨ch', my', g1, g2⟩ := m_finds (MF_pf hM c) none (fun r hr => by cases hr) ch my
    rw [show (fun k => op K (cnF n K G c none) k n) = Of n K G c none from rfl] at g2
    rw [show oI none = -5 from rfl] at g1
    obtain ⟨hi2, c1, c2⟩ := hact (nI (prd (bas (Of n K G c none)) 10))
    rw [if_neg (fun z => e (bI_inj.mp z)), if_neg (fun z => e (bI_inj.mp z).symm), ← hb, r1, m1, bs, bs]
    try dsimp only
    unfold f_X3_setPreference f_X0_mendings
    rw [if_pos (isB_bI c), bs, q1, g1, bs, bs]
    try dsimp only
    rw [bs, m_mendings g2 q2.1, bs, c1, bs, q2.2.2.2.2]
    exact ⟨_, _, _, _, _, _, _, _, _, _, _, _, _, _, _, _, _, _, _, _, _, _, _, _, _, _, _, _, _, _, _, _, _, _, _, _, _, _, _, rfl, rfl, ⟨n, K, V, G, T, c, hT, rfl, MF_pf hM c⟩, c2⟩
theorem s_undo (hR : RelT nr pf ks vs wg ts al) (hH : HR nx nz hlg (h0nr, h0pf, h0ks, h0vs, h0wg, h0ts) (h1nr, h1pf, h1ks, h1vs, h1wg, h1ts) (h2nr, h2pf, h2ks, h2vs, h2wg, h2ts) (h3nr, h3pf, h3ks, h3vs, h3wg, h3ts) hi) :
    ∃ out a_nr a_pf a_ks a_vs a_wg a_ts a_nx a_nz b_hlg b_al, f_X5_undo nr pf ks vs wg ts nx nz h0nr h0pf h0ks h0vs h0wg h0ts h1nr h1pf h1ks h1vs h1wg h1ts h2nr h2pf h2ks h2vs h2wg h2ts h3nr h3pf h3ks h3vs h3wg h3ts = some (out, a_nr, a_pf, a_ks, a_vs, a_wg, a_ts, a_nx, a_nz) ∧ f_X6_undo hlg al hi = some (out, b_hlg, b_al) ∧ RelT a_nr a_pf a_ks a_vs a_wg a_ts b_al ∧ HR a_nx a_nz b_hlg (h0nr, h0pf, h0ks, h0vs, h0wg, h0ts) (h1nr, h1pf, h1ks, h1vs, h1wg, h1ts) (h2nr, h2pf, h2ks, h2vs, h2wg, h2ts) (h3nr, h3pf, h3ks, h3vs, h3wg, h3ts) hi := by
  obtain ⟨x, z, hx, hz, rfl, rfl, rfl, hr⟩ := id hH
  unfold f_X5_undo f_X6_undo
  by_cases e : z = 0
  · subst e
    rw [c_takeNone hx h0nr h0pf h0ks h0vs h0wg h0ts h1nr h1pf h1ks h1vs h1wg h1ts h2nr h2pf h2ks h2vs h2wg h2ts h3nr h3pf h3ks h3vs h3wg h3ts nr pf ks vs wg ts, bs, if_pos (show nI 0 = 0 from rfl)]
    try dsimp only
    rw [if_pos rfl]
    exact ⟨_, _, _, _, _, _, _, _, _, _, _, rfl, rfl, hR, hH⟩
  · have hsl : (x + 4 - z + (z - 1)) % 4 = (x + 3) % 4 := by omega
    have hold := hr (z - 1) (by omega)
    rw [hsl] at hold
    obtain ⟨cks, cvs, cwg, cts, r1, r2⟩ := c_takeBack hx (by omega) hz h0nr h0pf h0ks h0vs h0wg h0ts h1nr h1pf h1ks h1vs h1wg h1ts h2nr h2pf h2ks h2vs h2wg h2ts h3nr h3pf h3ks h3vs h3wg h3ts nr pf ks vs wg ts (fun i _ hi => by rw [hi]; exact RelT_isB hold)
    obtain ⟨al', m1, m2⟩ := m_blockAl hi al (z := z - 1) (by omega)
    rw [show z - 1 + 1 = z by omega] at m1
    rw [r1, bs, if_neg (nI_ne0 (by omega) (by omega)), m1]
    try dsimp only
    unfold f_X1_size
    rw [if_neg (by decide), bs]
    refine ⟨_, _, _, _, _, _, _, _, _, _, _, rfl, rfl, RelT_congr hold r2 m2, ⟨(x + 3) % 4, z - 1, by omega, by omega, rfl, rfl, rfl, fun i hi => ?_⟩⟩
    have hs2 : ((x + 3) % 4 + 4 - (z - 1) + i) % 4 = (x + 4 - z + i) % 4 := by omega
    rw [hs2]
    exact hr i (by omega)
end ACTS
theorem s_keep {nr pf : Int32} {ks vs wg ts al : Nat → Int32} (hR : RelT nr pf ks vs wg ts al) (sks svs swg sts sn : Nat → Int32) :
    ∃ out a_sk a_snr a_spf a_sks a_svs a_swg a_sts b_tk b_sn, f_X5_keep nr pf ks vs wg ts sks svs swg sts = some (out, a_sk, a_snr, a_spf, a_sks, a_svs, a_swg, a_sts) ∧ f_X6_keep al sn = some (out, b_tk, b_sn) ∧ SN a_sk a_snr a_spf a_sks a_svs a_swg a_sts b_tk b_sn := by
  obtain ⟨n, K, V, G, T, b, hT, hb, hM⟩ := id hR
  obtain ⟨sn', m1, m2⟩ := m_keep al sn
  unfold f_X5_keep f_X3_size
  rw [c_copyFrom sks svs swg sts (RelT_isB hR), bs, m1]
  try dsimp only
  rw [bs, hT.1, hM.1]
  refine ⟨_, _, _, _, _, _, _, _, _, _, rfl, rfl, Or.inr ⟨rfl, rfl, ?_⟩⟩
  rw [hT.1] at hR
  exact RelT_congr (RelT_cpy sks svs swg sts hR) (fun _ _ => ⟨rfl, rfl, rfl, rfl⟩) m2
section REST
variable {nr pf nx nz hlg : Int32} {ks vs wg ts al hi : Nat → Int32} {h0nr : Int32} {h0pf : Int32} {h0ks : Nat → Int32} {h0vs : Nat → Int32} {h0wg : Nat → Int32} {h0ts : Nat → Int32} {h1nr : Int32} {h1pf : Int32} {h1ks : Nat → Int32} {h1vs : Nat → Int32} {h1wg : Nat → Int32} {h1ts : Nat → Int32} {h2nr : Int32} {h2pf : Int32} {h2ks : Nat → Int32} {h2vs : Nat → Int32} {h2wg : Nat → Int32} {h2ts : Nat → Int32} {h3nr : Int32} {h3pf : Int32} {h3ks : Nat → Int32} {h3vs : Nat → Int32} {h3wg : Nat → Int32} {h3ts : Nat → Int32}
theorem s_restore (hR : RelT nr pf ks vs wg ts al) (hH : HR nx nz hlg (h0nr, h0pf, h0ks, h0vs, h0wg, h0ts) (h1nr, h1pf, h1ks, h1vs, h1wg, h1ts) (h2nr, h2pf, h2ks, h2vs, h2wg, h2ts) (h3nr, h3pf, h3ks, h3vs, h3wg, h3ts) hi) {sk snr spf tk : Int32} {sks svs swg sts sn : Nat → Int32} (hS : SN sk snr spf sks svs swg sts tk sn) (sv : Nat → Int32) :
    ∃ out a_nr a_pf a_ks a_vs a_wg a_ts a_nx a_nz a_h0nr a_h0pf a_h0ks a_h0vs a_h0wg a_h0ts a_h1nr a_h1pf a_h1ks a_h1vs a_h1wg a_h1ts a_h2nr a_h2pf a_h2ks a_h2vs a_h2wg a_h2ts a_h3nr a_h3pf a_h3ks a_h3vs a_h3wg a_h3ts b_hlg b_al b_sv b_hi, f_X5_restore sk nr pf ks vs wg ts nx nz h0nr h0pf h0ks h0vs h0wg h0ts h1nr h1pf h1ks h1vs h1wg h1ts h2nr h2pf h2ks h2vs h2wg h2ts h3nr h3pf h3ks h3vs h3wg h3ts snr spf sks svs swg sts = some (out, a_nr, a_pf, a_ks, a_vs, a_wg, a_ts, a_nx, a_nz, a_h0nr, a_h0pf, a_h0ks, a_h0vs, a_h0wg, a_h0ts, a_h1nr, a_h1pf, a_h1ks, a_h1vs, a_h1wg, a_h1ts, a_h2nr, a_h2pf, a_h2ks, a_h2vs, a_h2wg, a_h2ts, a_h3nr, a_h3pf, a_h3ks, a_h3vs, a_h3wg, a_h3ts) ∧ f_X6_restore hlg tk al sv hi sn = some (out, b_hlg, b_al, b_sv, b_hi) ∧ RelT a_nr a_pf a_ks a_vs a_wg a_ts b_al ∧ HR a_nx a_nz b_hlg (a_h0nr, a_h0pf, a_h0ks, a_h0vs, a_h0wg, a_h0ts) (a_h1nr, a_h1pf, a_h1ks, a_h1vs, a_h1wg, a_h1ts) (a_h2nr, a_h2pf, a_h2ks, a_h2vs, a_h2wg, a_h2ts) (a_h3nr, a_h3pf, a_h3ks, a_h3vs, a_h3wg, a_h3ts) b_hi := by
  obtain ⟨nx2, nz2, g0nr, g0pf, g0ks, g0vs, g0wg, g0ts, g1nr, g1pf, g1ks, g1vs, g1wg, g1ts, g2nr, g2pf, g2ks, g2vs, g2wg, g2ts, g3nr, g3pf, g3ks, g3vs, g3wg, g3ts, sv2, r1, m1, m2, hact⟩ := act_both hH hR sv
  unfold f_X5_restore f_X6_restore
  rcases hS with ⟨rfl, rfl⟩ | ⟨rfl, rfl, hR2⟩
  · rw [if_pos rfl, if_pos rfl]
    exact ⟨_, _, _, _, _, _, _, _, _, _, _, _, _, _, _, _, _, _, _, _, _, _, _, _, _, _, _, _, _, _, _, _, _, _, _, _, _, rfl, rfl, hR, hH⟩
  · obtain ⟨n, K, V, G, T, b, hT, hb, hM⟩ := id hR2
    obtain ⟨al', l1, l2⟩ := m_restoreL hlg hi sn sv2 al
    obtain ⟨hi2, c1, c2⟩ := hact (al' 0)
    rw [if_neg (by decide), if_neg (show ¬ (1 : Int32) = 0 by decide), r1, m1, bs, bs]
    try dsimp only
    rw [c_copyFrom ks vs wg ts (RelT_isB hR2), bs, l1, c1, bs]
    try dsimp only
    unfold f_X3_size
    rw [bs, l2 0 (by omega), hM.1, hT.1]
    rw [hT.1] at hR2
    exact ⟨_, _, _, _, _, _, _, _, _, _, _, _, _, _, _, _, _, _, _, _, _, _, _, _, _, _, _, _, _, _, _, _, _, _, _, _, _, rfl, rfl, RelT_congr (RelT_cpy ks vs wg ts hR2) (fun _ _ => ⟨rfl, rfl, rfl, rfl⟩) l2, c2⟩
theorem s_readRows (hR : RelT nr pf ks vs wg ts al) (hH : HR nx nz hlg (h0nr, h0pf, h0ks, h0vs, h0wg, h0ts) (h1nr, h1pf, h1ks, h1vs, h1wg, h1ts) (h2nr, h2pf, h2ks, h2vs, h2wg, h2ts) (h3nr, h3pf, h3ks, h3vs, h3wg, h3ts) hi) {len : Nat} {tl xl : Int32} {tc tx : Nat → Int32} (hX : TX len tl xl tc tx) (rks rvs rwg rts sv rd : Nat → Int32) :
    ∃ out a_nr a_ks a_vs a_wg a_ts a_nx a_nz a_h0nr a_h0pf a_h0ks a_h0vs a_h0wg a_h0ts a_h1nr a_h1pf a_h1ks a_h1vs a_h1wg a_h1ts a_h2nr a_h2pf a_h2ks a_h2vs a_h2wg a_h2ts a_h3nr a_h3pf a_h3ks a_h3vs a_h3wg a_h3ts a_po a_rnr a_rks a_rvs a_rwg a_rts b_hlg b_xp b_rmn b_al b_sv b_hi b_rd, f_X5_readRows nr pf ks vs wg ts nx nz h0nr h0pf h0ks h0vs h0wg h0ts h1nr h1pf h1ks h1vs h1wg h1ts h2nr h2pf h2ks h2vs h2wg h2ts h3nr h3pf h3ks h3vs h3wg h3ts tl tc rks rvs rwg rts = some (out, a_nr, a_ks, a_vs, a_wg, a_ts, a_nx, a_nz, a_h0nr, a_h0pf, a_h0ks, a_h0vs, a_h0wg, a_h0ts, a_h1nr, a_h1pf, a_h1ks, a_h1vs, a_h1wg, a_h1ts, a_h2nr, a_h2pf, a_h2ks, a_h2vs, a_h2wg, a_h2ts, a_h3nr, a_h3pf, a_h3ks, a_h3vs, a_h3wg, a_h3ts, a_po, a_rnr, a_rks, a_rvs, a_rwg, a_rts) ∧ f_X6_readRows hlg xl al sv hi tx rd = some (out, b_hlg, b_xp, b_rmn, b_al, b_sv, b_hi, b_rd) ∧ RelT a_nr pf a_ks a_vs a_wg a_ts b_al ∧ HR a_nx a_nz b_hlg (a_h0nr, a_h0pf, a_h0ks, a_h0vs, a_h0wg, a_h0ts) (a_h1nr, a_h1pf, a_h1ks, a_h1vs, a_h1wg, a_h1ts) (a_h2nr, a_h2pf, a_h2ks, a_h2vs, a_h2wg, a_h2ts) (a_h3nr, a_h3pf, a_h3ks, a_h3vs, a_h3wg, a_h3ts) b_hi := by
  obtain ⟨n, K, V, G, T, b, hT, hb, hM⟩ := id hR
  have hn := hT.2.1
  obtain ⟨nx2, nz2, g0nr, g0pf, g0ks, g0vs, g0wg, g0ts, g1nr, g1pf, g1ks, g1vs, g1wg, g1ts, g2nr, g2pf, g2ks, g2vs, g2wg, g2ts, g3nr, g3pf, g3ks, g3vs, g3wg, g3ts, sv2, r1, m1, m2, hact⟩ := act_both hH hR sv
  have hT0 : TF 0 (fun _ => 0) (fun _ => 0) (fun _ => 0) (fun _ => 0) 0 rks rvs rwg rts := ⟨rfl, by omega, fun j hj => by omega⟩
  have hD0 : RD 0 (fun _ => 0) (fun _ => 0) (fun _ => 0) (fun _ => 0) rd := fun j hj => by omega
  obtain ⟨p', r', rnr', ks', vs', wg', ts', rd', rm', ok, hp', i1, i2, i3⟩ := text_both hX 20 0 0 _ _ _ _ 0 rks rvs rwg rts rd fuel fuel (by omega) (by unfold fuel; omega) (by unfold fuel; omega) (by omega) (by omega) hT0 hD0
  have j1 : f_X2_readAll rks rvs rwg rts tl tc = some (bI ok, nI p', rnr', ks', vs', wg', ts') := by
    unfold f_X2_readAll f_X3_empty
    rw [bs]
    exact i1
  have j2 : f_X6_fault xl tx rd = some (if ok then -5 else nI p', nI p', rm', rd') := by
    unfold f_X6_fault
    exact i2
  unfold f_X5_readRows f_X6_readRows
  rw [j1, j2, bs, bs]
  try dsimp only
  cases ok with
  | false =>
    unfold f_X2_position
    rw [if_pos (show bI false = 0 from rfl), bs, if_neg (show ¬ (if false = true then (-5 : Int32) else nI p') = -5 from nI_ne5 (by omega))]
    exact ⟨_, _, _, _, _, _, _, _, _, _, _, _, _, _, _, _, _, _, _, _, _, _, _, _, _, _, _, _, _, _, _, _, _, _, _, _, _, _, _, _, _, _, _, _, _, rfl, rfl, hR, hH⟩
  | true =>
    obtain ⟨k1, k2, K2, V2, G2, T2, hT2, hD2⟩ := i3 rfl
    have hr20 := hT2.2.1
    unfold f_X2_rowsRead f_X3_size
    rw [if_neg (show ¬ bI true = 0 by decide), if_pos (show (if true = true then (-5 : Int32) else nI p') = -5 from rfl), c_room hT, bs, bs, bs, k1, hM.1, nI_add, k2]
    by_cases ef : n + r' ≤ 20
    · subst k2
      obtain ⟨ks2, vs2, wg2, ts2, a1, a2⟩ := c_appendAll hT hT2 ef
      obtain ⟨al', q1, q2⟩ := m_putAll hlg hi sv2 (nI p') hM hD2 (fun j hj => (hT2.2.2 j hj).2.2.2.2) ef
      obtain ⟨hi2, c1, c2⟩ := hact (al' 0)
      rw [if_pos (nI_le (by omega) (by omega)), if_pos (show nI (n + r') ≤ 20 from nI_le (b := 20) ef (by omega)), r1, m1, bs, bs]
      try dsimp only
      rw [bs, a1, bs, q1, c1, bs]
      try dsimp only
      rw [bs, q2.1]
      exact ⟨_, _, _, _, _, _, _, _, _, _, _, _, _, _, _, _, _, _, _, _, _, _, _, _, _, _, _, _, _, _, _, _, _, _, _, _, _, _, _, _, _, _, _, _, _, rfl, rfl, ⟨n + r', _, _, _, _, b, a2, hb, q2⟩, c2⟩
    · rw [if_neg (nI_ge (by omega) (by omega)), if_neg (show ¬ nI (n + r') ≤ 20 from nI_ge (b := n + r') (a := 20) (by omega) (by omega))]
      exact ⟨_, _, _, _, _, _, _, _, _, _, _, _, _, _, _, _, _, _, _, _, _, _, _, _, _, _, _, _, _, _, _, _, _, _, _, _, _, _, _, _, _, _, _, _, _, rfl, rfl, hR, hH⟩
end REST
theorem s_type {len : Nat} {tl xl : Int32} {tc tx : Nat → Int32} (hX : TX len tl xl tc tx) (p0 : Int32) (hc : vp_nar .char p0 = p0) :
    ∃ out a_tl a_tc b_xl b_tx len', f_X5_type tl tc p0 = some (out, a_tl, a_tc) ∧ f_X6_type xl tx p0 = some (out, b_xl, b_tx) ∧ TX len' a_tl b_xl a_tc b_tx := by
  obtain ⟨h1, h2, h3, h4⟩ := id hX
  unfold f_X5_type f_X6_type f_X4_append f_X4_length
  rw [h2, h3, if_neg (nI_pos (by omega)), hc]
  by_cases e : len = 80
  · subst e
    rw [if_neg (show ¬ nI 80 < 80 by decide), if_pos (show nI 80 = 80 from rfl), bs]
    try dsimp only
    rw [if_pos rfl]
    rw [h2, h3] at hX
    exact ⟨_, _, _, _, _, 80, rfl, rfl, hX⟩
  · rw [if_pos (show nI len < 80 from nI_lt (b := 80) (by omega) (by omega)), if_pos (nI_in (by omega) (by omega)), if_neg (show ¬ nI len = 80 from fun z => e ((nI_eq (b := 80) (by omega) (by omega)).mp z)), nI_clamp (by omega), if_pos (nI_in2 (show len < 80 by omega) (by omega)), bs, nI_1]
    try dsimp only
    rw [if_neg (by decide), bs]
    refine ⟨_, _, _, _, _, len + 1, rfl, rfl, by omega, rfl, rfl, fun i hi => ?_⟩
    unfold upd
    by_cases q : i = len
    · rw [if_pos q, if_pos q]
    · rw [if_neg q, if_neg q]
      exact h4 i (by omega)
theorem s_clear {len : Nat} {tl xl : Int32} {tc tx : Nat → Int32} (hX : TX len tl xl tc tx) :
    ∃ out a_tl b_xl, f_X5_clearText tl = some (out, a_tl) ∧ f_X6_clearText xl = some (out, b_xl) ∧ TX 0 a_tl b_xl tc tx := by
  obtain ⟨h1, h2, h3, h4⟩ := id hX
  unfold f_X5_clearText f_X6_clearText f_X4_length f_X4_empty
  rw [bs, bs, h2, h3]
  exact ⟨_, _, _, rfl, rfl, by omega, rfl, rfl, fun i hi => by omega⟩
