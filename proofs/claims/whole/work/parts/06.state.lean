/-! ===== the state of the class and of the reference, their cells, and a row for each access ===== -/
abbrev SC : Type := ((((((Nat → Int32) × Int32) × ((Nat → Int32) × Int32)) × ((Int32 × (Nat → Int32)) × (Nat → Int32))) × ((((Nat → Int32) × (Nat → Int32)) × ((Nat → Int32) × (Nat → Int32))) × (((Nat → Int32) × Int32) × Int32))) × ((((Int32 × (Nat → Int32)) × ((Nat → Int32) × (Nat → Int32))) × (((Nat → Int32) × (Nat → Int32)) × (Nat → Int32))) × ((((Nat → Int32) × Int32) × (Int32 × Int32)) × (((Nat → Int32) × Int32) × Int32))))
def c_codes (σ : SC) : (Nat → Int32) := σ.1.1.1.1.1
def sc_codes (σ : SC) (v : (Nat → Int32)) : SC := (((((v, σ.1.1.1.1.2), σ.1.1.1.2), σ.1.1.2), σ.1.2), σ.2)
def c_plen (σ : SC) : Int32 := σ.1.1.1.1.2
def sc_plen (σ : SC) (v : Int32) : SC := (((((σ.1.1.1.1.1, v), σ.1.1.1.2), σ.1.1.2), σ.1.2), σ.2)
def c_kinds (σ : SC) : (Nat → Int32) := σ.1.1.1.2.1
def sc_kinds (σ : SC) (v : (Nat → Int32)) : SC := ((((σ.1.1.1.1, (v, σ.1.1.1.2.2)), σ.1.1.2), σ.1.2), σ.2)
def c_people (σ : SC) : Int32 := σ.1.1.1.2.2
def sc_people (σ : SC) (v : Int32) : SC := ((((σ.1.1.1.1, (σ.1.1.1.2.1, v)), σ.1.1.2), σ.1.2), σ.2)
def c_river (σ : SC) : Int32 := σ.1.1.2.1.1
def sc_river (σ : SC) (v : Int32) : SC := (((σ.1.1.1, ((v, σ.1.1.2.1.2), σ.1.1.2.2)), σ.1.2), σ.2)
def c_nexts (σ : SC) : (Nat → Int32) := σ.1.1.2.1.2
def sc_nexts (σ : SC) (v : (Nat → Int32)) : SC := (((σ.1.1.1, ((σ.1.1.2.1.1, v), σ.1.1.2.2)), σ.1.2), σ.2)
def c_lsts (σ : SC) : (Nat → Int32) := σ.1.1.2.2
def sc_lsts (σ : SC) (v : (Nat → Int32)) : SC := (((σ.1.1.1, (σ.1.1.2.1, v)), σ.1.2), σ.2)
def c_heard (σ : SC) : (Nat → Int32) := σ.1.2.1.1.1
def sc_heard (σ : SC) (v : (Nat → Int32)) : SC := ((σ.1.1, (((v, σ.1.2.1.1.2), σ.1.2.1.2), σ.1.2.2)), σ.2)
def c_last (σ : SC) : (Nat → Int32) := σ.1.2.1.1.2
def sc_last (σ : SC) (v : (Nat → Int32)) : SC := ((σ.1.1, (((σ.1.2.1.1.1, v), σ.1.2.1.2), σ.1.2.2)), σ.2)
def c_denied (σ : SC) : (Nat → Int32) := σ.1.2.1.2.1
def sc_denied (σ : SC) (v : (Nat → Int32)) : SC := ((σ.1.1, ((σ.1.2.1.1, (v, σ.1.2.1.2.2)), σ.1.2.2)), σ.2)
def c_whom (σ : SC) : (Nat → Int32) := σ.1.2.1.2.2
def sc_whom (σ : SC) (v : (Nat → Int32)) : SC := ((σ.1.1, ((σ.1.2.1.1, (σ.1.2.1.2.1, v)), σ.1.2.2)), σ.2)
def c_wday (σ : SC) : (Nat → Int32) := σ.1.2.2.1.1
def sc_wday (σ : SC) (v : (Nat → Int32)) : SC := ((σ.1.1, (σ.1.2.1, ((v, σ.1.2.2.1.2), σ.1.2.2.2))), σ.2)
def c_asked (σ : SC) : Int32 := σ.1.2.2.1.2
def sc_asked (σ : SC) (v : Int32) : SC := ((σ.1.1, (σ.1.2.1, ((σ.1.2.2.1.1, v), σ.1.2.2.2))), σ.2)
def c_days (σ : SC) : Int32 := σ.1.2.2.2
def sc_days (σ : SC) (v : Int32) : SC := ((σ.1.1, (σ.1.2.1, (σ.1.2.2.1, v))), σ.2)
def c_changes (σ : SC) : Int32 := σ.2.1.1.1.1
def sc_changes (σ : SC) (v : Int32) : SC := (σ.1, ((((v, σ.2.1.1.1.2), σ.2.1.1.2), σ.2.1.2), σ.2.2))
def c_knexts (σ : SC) : (Nat → Int32) := σ.2.1.1.1.2
def sc_knexts (σ : SC) (v : (Nat → Int32)) : SC := (σ.1, ((((σ.2.1.1.1.1, v), σ.2.1.1.2), σ.2.1.2), σ.2.2))
def c_klsts (σ : SC) : (Nat → Int32) := σ.2.1.1.2.1
def sc_klsts (σ : SC) (v : (Nat → Int32)) : SC := (σ.1, (((σ.2.1.1.1, (v, σ.2.1.1.2.2)), σ.2.1.2), σ.2.2))
def c_kheard (σ : SC) : (Nat → Int32) := σ.2.1.1.2.2
def sc_kheard (σ : SC) (v : (Nat → Int32)) : SC := (σ.1, (((σ.2.1.1.1, (σ.2.1.1.2.1, v)), σ.2.1.2), σ.2.2))
def c_klast (σ : SC) : (Nat → Int32) := σ.2.1.2.1.1
def sc_klast (σ : SC) (v : (Nat → Int32)) : SC := (σ.1, ((σ.2.1.1, ((v, σ.2.1.2.1.2), σ.2.1.2.2)), σ.2.2))
def c_kdenied (σ : SC) : (Nat → Int32) := σ.2.1.2.1.2
def sc_kdenied (σ : SC) (v : (Nat → Int32)) : SC := (σ.1, ((σ.2.1.1, ((σ.2.1.2.1.1, v), σ.2.1.2.2)), σ.2.2))
def c_kwhom (σ : SC) : (Nat → Int32) := σ.2.1.2.2
def sc_kwhom (σ : SC) (v : (Nat → Int32)) : SC := (σ.1, ((σ.2.1.1, (σ.2.1.2.1, v)), σ.2.2))
def c_kwday (σ : SC) : (Nat → Int32) := σ.2.2.1.1.1
def sc_kwday (σ : SC) (v : (Nat → Int32)) : SC := (σ.1, (σ.2.1, (((v, σ.2.2.1.1.2), σ.2.2.1.2), σ.2.2.2)))
def c_kasked (σ : SC) : Int32 := σ.2.2.1.1.2
def sc_kasked (σ : SC) (v : Int32) : SC := (σ.1, (σ.2.1, (((σ.2.2.1.1.1, v), σ.2.2.1.2), σ.2.2.2)))
def c_kdays (σ : SC) : Int32 := σ.2.2.1.2.1
def sc_kdays (σ : SC) (v : Int32) : SC := (σ.1, (σ.2.1, ((σ.2.2.1.1, (v, σ.2.2.1.2.2)), σ.2.2.2)))
def c_kchanges (σ : SC) : Int32 := σ.2.2.1.2.2
def sc_kchanges (σ : SC) (v : Int32) : SC := (σ.1, (σ.2.1, ((σ.2.2.1.1, (σ.2.2.1.2.1, v)), σ.2.2.2)))
def c_left (σ : SC) : (Nat → Int32) := σ.2.2.2.1.1
def sc_left (σ : SC) (v : (Nat → Int32)) : SC := (σ.1, (σ.2.1, (σ.2.2.1, ((v, σ.2.2.2.1.2), σ.2.2.2.2))))
def c_hasImage (σ : SC) : Int32 := σ.2.2.2.1.2
def sc_hasImage (σ : SC) (v : Int32) : SC := (σ.1, (σ.2.1, (σ.2.2.1, ((σ.2.2.2.1.1, v), σ.2.2.2.2))))
def c_readings (σ : SC) : Int32 := σ.2.2.2.2
def sc_readings (σ : SC) (v : Int32) : SC := (σ.1, (σ.2.1, (σ.2.2.1, (σ.2.2.2.1, v))))
def wC (ad : Nat → Nat) (cA : ClassId) (σ : SC) : va_W := [(ad 0, .inr (5, [.ref (ad 1), .ref (ad 3), .ref (ad 5), .ref (ad 13), .ref (ad 21), .ref (ad 22), .int (c_hasImage σ), .int (c_readings σ)])),
  (ad 1, .inr (1, [.ref (ad 2), .int (c_plen σ)])),
  (ad 2, .inl (cA, 22, .inl (c_codes σ))),
  (ad 3, .inr (0, [.ref (ad 4), .int (c_people σ), .int (c_river σ)])),
  (ad 4, .inl (cA, 6, .inl (c_kinds σ))),
  (ad 5, .inr (2, [.ref (ad 6), .ref (ad 7), .ref (ad 8), .ref (ad 9), .ref (ad 10), .ref (ad 11), .ref (ad 12), .int (c_asked σ), .int (c_days σ), .int (c_changes σ)])),
  (ad 6, .inl (cA, 6, .inl (c_nexts σ))),
  (ad 7, .inl (cA, 6, .inl (c_lsts σ))),
  (ad 8, .inl (cA, 3, .inl (c_heard σ))),
  (ad 9, .inl (cA, 3, .inl (c_last σ))),
  (ad 10, .inl (cA, 3, .inl (c_denied σ))),
  (ad 11, .inl (cA, 8, .inl (c_whom σ))),
  (ad 12, .inl (cA, 8, .inl (c_wday σ))),
  (ad 13, .inr (2, [.ref (ad 14), .ref (ad 15), .ref (ad 16), .ref (ad 17), .ref (ad 18), .ref (ad 19), .ref (ad 20), .int (c_kasked σ), .int (c_kdays σ), .int (c_kchanges σ)])),
  (ad 14, .inl (cA, 6, .inl (c_knexts σ))),
  (ad 15, .inl (cA, 6, .inl (c_klsts σ))),
  (ad 16, .inl (cA, 3, .inl (c_kheard σ))),
  (ad 17, .inl (cA, 3, .inl (c_klast σ))),
  (ad 18, .inl (cA, 3, .inl (c_kdenied σ))),
  (ad 19, .inl (cA, 8, .inl (c_kwhom σ))),
  (ad 20, .inl (cA, 8, .inl (c_kwday σ))),
  (ad 21, .inr (4, [.ref (ad 3), .ref (ad 5)])),
  (ad 22, .inr (3, [.ref (ad 3), .ref (ad 5), .ref (ad 21), .ref (ad 23)])),
  (ad 23, .inl (cA, 7, .inl (c_left σ)))]
abbrev SM : Type := ((((((Nat → Int32) × Int32) × Int32) × ((Int32 × Int32) × Int32)) × (((Int32 × Int32) × (Nat → Int32)) × ((Nat → Int32) × Int32))) × (((((Nat → Int32) × (Nat → Int32)) × Int32) × ((Int32 × Int32) × Int32)) × (((Int32 × (Nat → Int32)) × (Nat → Int32)) × ((Nat → Int32) × Int64))))
def m_page (σ : SM) : (Nat → Int32) := σ.1.1.1.1.1
def sm_page (σ : SM) (v : (Nat → Int32)) : SM := (((((v, σ.1.1.1.1.2), σ.1.1.1.2), σ.1.1.2), σ.1.2), σ.2)
def m_pageMany (σ : SM) : Int32 := σ.1.1.1.1.2
def sm_pageMany (σ : SM) (v : Int32) : SM := (((((σ.1.1.1.1.1, v), σ.1.1.1.2), σ.1.1.2), σ.1.2), σ.2)
def m_endAt (σ : SM) : Int32 := σ.1.1.1.2
def sm_endAt (σ : SM) (v : Int32) : SM := ((((σ.1.1.1.1, v), σ.1.1.2), σ.1.2), σ.2)
def m_people (σ : SM) : Int32 := σ.1.1.2.1.1
def sm_people (σ : SM) (v : Int32) : SM := (((σ.1.1.1, ((v, σ.1.1.2.1.2), σ.1.1.2.2)), σ.1.2), σ.2)
def m_river (σ : SM) : Int32 := σ.1.1.2.1.2
def sm_river (σ : SM) (v : Int32) : SM := (((σ.1.1.1, ((σ.1.1.2.1.1, v), σ.1.1.2.2)), σ.1.2), σ.2)
def m_days (σ : SM) : Int32 := σ.1.1.2.2
def sm_days (σ : SM) (v : Int32) : SM := (((σ.1.1.1, (σ.1.1.2.1, v)), σ.1.2), σ.2)
def m_changes (σ : SM) : Int32 := σ.1.2.1.1.1
def sm_changes (σ : SM) (v : Int32) : SM := ((σ.1.1, (((v, σ.1.2.1.1.2), σ.1.2.1.2), σ.1.2.2)), σ.2)
def m_hillsRead (σ : SM) : Int32 := σ.1.2.1.1.2
def sm_hillsRead (σ : SM) (v : Int32) : SM := ((σ.1.1, (((σ.1.2.1.1.1, v), σ.1.2.1.2), σ.1.2.2)), σ.2)
def m_rows (σ : SM) : (Nat → Int32) := σ.1.2.1.2
def sm_rows (σ : SM) (v : (Nat → Int32)) : SM := ((σ.1.1, ((σ.1.2.1.1, v), σ.1.2.2)), σ.2)
def m_tunnels (σ : SM) : (Nat → Int32) := σ.1.2.2.1
def sm_tunnels (σ : SM) (v : (Nat → Int32)) : SM := ((σ.1.1, (σ.1.2.1, (v, σ.1.2.2.2))), σ.2)
def m_askedMany (σ : SM) : Int32 := σ.1.2.2.2
def sm_askedMany (σ : SM) (v : Int32) : SM := ((σ.1.1, (σ.1.2.1, (σ.1.2.2.1, v))), σ.2)
def m_askeds (σ : SM) : (Nat → Int32) := σ.2.1.1.1.1
def sm_askeds (σ : SM) (v : (Nat → Int32)) : SM := (σ.1, ((((v, σ.2.1.1.1.2), σ.2.1.1.2), σ.2.1.2), σ.2.2))
def m_parts (σ : SM) : (Nat → Int32) := σ.2.1.1.1.2
def sm_parts (σ : SM) (v : (Nat → Int32)) : SM := (σ.1, ((((σ.2.1.1.1.1, v), σ.2.1.1.2), σ.2.1.2), σ.2.2))
def m_seedNow (σ : SM) : Int32 := σ.2.1.1.2
def sm_seedNow (σ : SM) (v : Int32) : SM := (σ.1, (((σ.2.1.1.1, v), σ.2.1.2), σ.2.2))
def m_keptHill (σ : SM) : Int32 := σ.2.1.2.1.1
def sm_keptHill (σ : SM) (v : Int32) : SM := (σ.1, ((σ.2.1.1, ((v, σ.2.1.2.1.2), σ.2.1.2.2)), σ.2.2))
def m_keptDays (σ : SM) : Int32 := σ.2.1.2.1.2
def sm_keptDays (σ : SM) (v : Int32) : SM := (σ.1, ((σ.2.1.1, ((σ.2.1.2.1.1, v), σ.2.1.2.2)), σ.2.2))
def m_keptChanges (σ : SM) : Int32 := σ.2.1.2.2
def sm_keptChanges (σ : SM) (v : Int32) : SM := (σ.1, ((σ.2.1.1, (σ.2.1.2.1, v)), σ.2.2))
def m_keptAsked (σ : SM) : Int32 := σ.2.2.1.1.1
def sm_keptAsked (σ : SM) (v : Int32) : SM := (σ.1, (σ.2.1, (((v, σ.2.2.1.1.2), σ.2.2.1.2), σ.2.2.2)))
def m_keptRows (σ : SM) : (Nat → Int32) := σ.2.2.1.1.2
def sm_keptRows (σ : SM) (v : (Nat → Int32)) : SM := (σ.1, (σ.2.1, (((σ.2.2.1.1.1, v), σ.2.2.1.2), σ.2.2.2)))
def m_keptTunnels (σ : SM) : (Nat → Int32) := σ.2.2.1.2
def sm_keptTunnels (σ : SM) (v : (Nat → Int32)) : SM := (σ.1, (σ.2.1, ((σ.2.2.1.1, v), σ.2.2.2)))
def m_keptAskeds (σ : SM) : (Nat → Int32) := σ.2.2.2.1
def sm_keptAskeds (σ : SM) (v : (Nat → Int32)) : SM := (σ.1, (σ.2.1, (σ.2.2.1, (v, σ.2.2.2.2))))
def m_hash (σ : SM) : Int64 := σ.2.2.2.2
def sm_hash (σ : SM) (v : Int64) : SM := (σ.1, (σ.2.1, (σ.2.2.1, (σ.2.2.2.1, v))))
def wM (ad : Nat → Nat) (cA : ClassId) (σ : SM) : va_W := [(ad 0, .inr (6, [.ref (ad 1), .int (m_pageMany σ), .int (m_endAt σ), .int (m_people σ), .int (m_river σ), .int (m_days σ), .int (m_changes σ), .int (m_hillsRead σ), .ref (ad 2), .ref (ad 3), .int (m_askedMany σ), .ref (ad 4), .ref (ad 5), .int (m_seedNow σ), .int (m_keptHill σ), .int (m_keptDays σ), .int (m_keptChanges σ), .int (m_keptAsked σ), .ref (ad 6), .ref (ad 7), .ref (ad 8), .long (m_hash σ)])),
  (ad 1, .inl (cA, 22, .inl (m_page σ))),
  (ad 2, .inl (cA, 12, .inl (m_rows σ))),
  (ad 3, .inl (cA, 9, .inl (m_tunnels σ))),
  (ad 4, .inl (cA, 16, .inl (m_askeds σ))),
  (ad 5, .inl (cA, 8, .inl (m_parts σ))),
  (ad 6, .inl (cA, 12, .inl (m_keptRows σ))),
  (ad 7, .inl (cA, 9, .inl (m_keptTunnels σ))),
  (ad 8, .inl (cA, 16, .inl (m_keptAskeds σ)))]
