theorem p24 {G : xG} {m : xM} (hR : REL m) {Q : xQt} (h : ∀ (rv : Int64) m1, MID G 154 [.ref 86] (.long rv) m1 → Q (some (.long rv)) m1) : Tri G 24 [.ref 0] m Q := sorry
