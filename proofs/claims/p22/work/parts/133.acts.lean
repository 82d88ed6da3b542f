/-! the acts: both sides answer alike, and their states stay alike -/
theorem kl_id {p : Nat → Bool} {n : Nat} (h : (kl p n).length = n) : ∀ j, j < n → (kl p n).getD j 0 = j := by
  intro j hj
  rw [kl_len] at h
  rw [kl_all (cntP_all.mp h)]
  exact range_getD hj
theorem bI_inj {b c : Bool} : bI b = bI c ↔ b = c := by cases b <;> cases c <;> decide
section ACTS
variable {nr pf nx nz hlg : Int32} {ks vs wg ts al hi : Nat → Int32} {h0nr : Int32} {h0pf : Int32} {h0ks : Nat → Int32} {h0vs : Nat → Int32} {h0wg : Nat → Int32} {h0ts : Nat → Int32} {h1nr : Int32} {h1pf : Int32} {h1ks : Nat → Int32} {h1vs : Nat → Int32} {h1wg : Nat → Int32} {h1ts : Nat → Int32} {h2nr : Int32} {h2pf : Int32} {h2ks : Nat → Int32} {h2vs : Nat → Int32} {h2wg : Nat → Int32} {h2ts : Nat → Int32} {h3nr : Int32} {h3pf : Int32} {h3ks : Nat → Int32} {h3vs : Nat → Int32} {h3wg : Nat → Int32} {h3ts : Nat → Int32}
end ACTS
section REST
variable {nr pf nx nz hlg : Int32} {ks vs wg ts al hi : Nat → Int32} {h0nr : Int32} {h0pf : Int32} {h0ks : Nat → Int32} {h0vs : Nat → Int32} {h0wg : Nat → Int32} {h0ts : Nat → Int32} {h1nr : Int32} {h1pf : Int32} {h1ks : Nat → Int32} {h1vs : Nat → Int32} {h1wg : Nat → Int32} {h1ts : Nat → Int32} {h2nr : Int32} {h2pf : Int32} {h2ks : Nat → Int32} {h2vs : Nat → Int32} {h2wg : Nat → Int32} {h2ts : Nat → Int32} {h3nr : Int32} {h3pf : Int32} {h3ks : Nat → Int32} {h3vs : Nat → Int32} {h3wg : Nat → Int32} {h3ts : Nat → Int32}
end REST