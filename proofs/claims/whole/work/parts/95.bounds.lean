/-! what the calls keep of a republic's bounds -/
theorem sW_per {r : sR} {cnt k n : Nat} (h : sW r cnt) (h4 : ¬ r 7 4 = 4) (hk : k ≤ 5) (hn : n ≤ 9) : sW (sPer r (r 7 4) k n) cnt := by
  obtain ⟨hb, h0, h1, h1', h2, h3, h74, h5⟩ := h
  refine ⟨fun j => ?_, ?_, ?_, ?_, ?_, ?_, ?_, ?_⟩
  · obtain ⟨b0, b1, b2, b3, b4, b5, b6⟩ := hb j
    by_cases e : j = r 7 4
    · simp [sPer, ← e]
      omega
    · simp [sPer, e]
      omega
  · simpa [sPer] using h0
  · simpa [sPer] using h1
  · simpa [sPer] using h1'
  · simpa [sPer] using h2
  · simpa [sPer] using h3
  · simp [sPer]; omega
  · simpa [sPer] using h5
theorem sW_force {r : sR} {cnt t : Nat} (h : sW r cnt) (ht : t < cnt) : sW (sForce r t) cnt := by
  obtain ⟨hb, h0, h1, h1', h2, h3, h74, h5⟩ := h
  refine ⟨fun j => ?_, ?_, ?_, ?_, ?_, ?_, ?_, ?_⟩
  · simpa [sForce] using hb j
  · simpa [sForce] using h0
  · simpa [sForce] using h1
  · simpa [sForce] using h1'
  · simpa [sForce] using h2
  · simpa [sForce] using h3
  · simpa [sForce] using h74
  · simpa [sForce] using ht
theorem sW_cnt {r : sR} {a b : Nat} (h : sW r a) (hab : a ≤ b) : sW r b := ⟨h.1, h.2.1, h.2.2.1, h.2.2.2.1, h.2.2.2.2.1, h.2.2.2.2.2.1, h.2.2.2.2.2.2.1, Nat.lt_of_lt_of_le h.2.2.2.2.2.2.2 hab⟩
theorem sW_bk {r rk : sR} {cnt : Nat} (h : sW r cnt) (hk : sW rk cnt) : sW (sBk r rk) cnt := by
  obtain ⟨hb, -⟩ := h
  obtain ⟨kb, k0, k1, k1', k2, k3, k74, k5⟩ := hk
  refine ⟨fun j => ?_, ?_, ?_, ?_, ?_, ?_, ?_, ?_⟩
  · obtain ⟨b0, b1, b2, b3, b4, b5, b6⟩ := hb j
    obtain ⟨c0, c1, c2, c3, c4, c5, c6⟩ := kb j
    by_cases e8 : j < 8 <;> by_cases e10 : j < 10 <;> by_cases e4 : j < 4 <;> simp [sBk, e8, e10, e4] <;> omega
  · simpa [sBk] using k0
  · simpa [sBk] using k1
  · simpa [sBk] using k1'
  · simpa [sBk] using k2
  · simpa [sBk] using k3
  · simpa [sBk] using k74
  · simpa [sBk] using k5
