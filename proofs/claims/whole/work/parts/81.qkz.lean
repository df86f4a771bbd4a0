theorem p94 {G : xG} {m : xM} (hR : REL m) (a : Int32) (a2 : Int32) {Q : xQt} (h : ∀ (rv : Int64) m1, MID G 203 [.ref 86, .int a, .int a2] (.long rv) m1 → Q (some (.long rv)) m1) : Tri G 94 [.ref 0, .int a, .int a2] m Q := by
  sorry
