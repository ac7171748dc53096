/-! ===== the methods as pure functions, by program out of the bytecode ===== -/
def fX6_in (N : Nat) (x0 : Int64) (x2 : Int64) (x4 : Int64) : Option Int32 :=
  (if (lg_cmp x0 x2) < 0 then (some 0)
   else (if 0 < (lg_cmp x0 x4) then (some 0)
     else (some 1)))
def fX6_copy_2_6_2 (N : Nat) : Nat → SM → Int32 → Option SM
  | 0, _, _ => none
  | n + 1, σ, x2 =>
  (if 12 ≤ x2 then (some σ)
       else (if inB x2 12 then (if inB x2 12 then (lb (sm_keptRows σ (upd (m_keptRows σ) x2.toNatClampNeg (m_rows σ x2.toNatClampNeg))) (fun σ13 => (fX6_copy_2_6_2 N n σ13 (x2 + 1)))) else none) else none))
def fX6_copy_2_6 (N : Nat) (σ : SM) : Option SM :=
  (fX6_copy_2_6_2 N N σ 0)
def fX6_copy_3_7_2 (N : Nat) : Nat → SM → Int32 → Option SM
  | 0, _, _ => none
  | n + 1, σ, x2 =>
  (if 9 ≤ x2 then (some σ)
       else (if inB x2 9 then (if inB x2 9 then (lb (sm_keptTunnels σ (upd (m_keptTunnels σ) x2.toNatClampNeg (m_tunnels σ x2.toNatClampNeg))) (fun σ13 => (fX6_copy_3_7_2 N n σ13 (x2 + 1)))) else none) else none))
def fX6_copy_3_7 (N : Nat) (σ : SM) : Option SM :=
  (fX6_copy_3_7_2 N N σ 0)
def fX6_copy_4_8_2 (N : Nat) : Nat → SM → Int32 → Option SM
  | 0, _, _ => none
  | n + 1, σ, x2 =>
  (if 16 ≤ x2 then (some σ)
       else (if inB x2 16 then (if inB x2 16 then (lb (sm_keptAskeds σ (upd (m_keptAskeds σ) x2.toNatClampNeg (m_askeds σ x2.toNatClampNeg))) (fun σ13 => (fX6_copy_4_8_2 N n σ13 (x2 + 1)))) else none) else none))
def fX6_copy_4_8 (N : Nat) (σ : SM) : Option SM :=
  (fX6_copy_4_8_2 N N σ 0)
def fX6_copy_6_2_2 (N : Nat) : Nat → SM → Int32 → Option SM
  | 0, _, _ => none
  | n + 1, σ, x2 =>
  (if 12 ≤ x2 then (some σ)
       else (if inB x2 12 then (if inB x2 12 then (lb (sm_rows σ (upd (m_rows σ) x2.toNatClampNeg (m_keptRows σ x2.toNatClampNeg))) (fun σ13 => (fX6_copy_6_2_2 N n σ13 (x2 + 1)))) else none) else none))
def fX6_copy_6_2 (N : Nat) (σ : SM) : Option SM :=
  (fX6_copy_6_2_2 N N σ 0)
def fX6_copy_7_3_2 (N : Nat) : Nat → SM → Int32 → Option SM
  | 0, _, _ => none
  | n + 1, σ, x2 =>
  (if 9 ≤ x2 then (some σ)
       else (if inB x2 9 then (if inB x2 9 then (lb (sm_tunnels σ (upd (m_tunnels σ) x2.toNatClampNeg (m_keptTunnels σ x2.toNatClampNeg))) (fun σ13 => (fX6_copy_7_3_2 N n σ13 (x2 + 1)))) else none) else none))
def fX6_copy_7_3 (N : Nat) (σ : SM) : Option SM :=
  (fX6_copy_7_3_2 N N σ 0)
def fX6_copy_8_4_2 (N : Nat) : Nat → SM → Int32 → Option SM
  | 0, _, _ => none
  | n + 1, σ, x2 =>
  (if 16 ≤ x2 then (some σ)
       else (if inB x2 16 then (if inB x2 16 then (lb (sm_askeds σ (upd (m_askeds σ) x2.toNatClampNeg (m_keptAskeds σ x2.toNatClampNeg))) (fun σ13 => (fX6_copy_8_4_2 N n σ13 (x2 + 1)))) else none) else none))
def fX6_copy_8_4 (N : Nat) (σ : SM) : Option SM :=
  (fX6_copy_8_4_2 N N σ 0)
def fX6_ones_4 (N : Nat) : Nat → Int32 → Int32 → Int32 → Option Int32
  | 0, _, _, _ => none
  | n + 1, x0, x1, x2 =>
  (if 6 ≤ x2 then (some x1)
       else (fX6_ones_4 N n x0 (x1 + ((x0 >>> (x2 &&& 31)) &&& 1)) (x2 + 1)))
def fX6_ones (N : Nat) (x0 : Int32) : Option Int32 :=
  (fX6_ones_4 N N x0 0 0)
def fX6_letter (N : Nat) (σ : SM) (x1 : Int32) : Option (Int32 × SM) :=
  (bo (fX6_in N x1.toInt64 1 126) (fun v6 => (if v6 = 0 then (some ((-102), σ))
   else (if (m_pageMany σ) = 22 then (some ((-104), σ))
     else (if inB (m_pageMany σ) 22 then (lb (sm_page σ (upd (m_page σ) (m_pageMany σ).toNatClampNeg x1)) (fun σ36 => (lb (sm_pageMany σ36 ((m_pageMany σ36) + 1)) (fun σ44 => (some ((m_pageMany σ44), σ44)))))) else none)))))
def fX6_blank (N : Nat) (σ : SM) : Option (Int32 × SM) :=
  (lb (sm_pageMany σ 0) (fun σ7 => (some ((m_pageMany σ), σ7))))
def fX6_kindBy (N : Nat) (x0 : Int32) : Option Int32 :=
  (if x0 = 109 then (some 0)
   else (if x0 = 115 then (some 1)
     else (if x0 = 103 then (some 2)
       else (if x0 = 99 then (some 3)
         else (if x0 = 112 then (some 4)
           else (some (-1)))))))
def fX6_isGood_70 (N : Nat) (σ : SM) (x1 : Int32) (x2 : Int32) : Option (Int32 × SM) :=
  (if x2 = 44 then (if 17 ≤ x1 then (some (0, σ))
       else (some (1, σ)))
     else (some (0, σ)))
def fX6_isGood (N : Nat) (σ : SM) (x1 : Int32) : Option (Int32 × SM) :=
  (if inB x1 22 then (if (m_endAt σ) = (-1) then (if (x1 - x1 / 3 * 3) = 2 then (if (m_page σ x1.toNatClampNeg) = 59 then (if x1 ≤ 4 then (fX6_isGood_70 N σ x1 (m_page σ x1.toNatClampNeg))
         else (lb (sm_endAt σ x1) (fun σ65 => (some (1, σ65)))))
       else (fX6_isGood_70 N σ x1 (m_page σ x1.toNatClampNeg)))
     else (if (x1 - x1 / 3 * 3) = 0 then (bo (fX6_kindBy N (m_page σ x1.toNatClampNeg)) (fun v95 => (if v95 = (-1) then (some (0, σ))
         else (some (1, σ)))))
       else (bo (fX6_in N ((m_page σ x1.toNatClampNeg).toInt64) 48 57) (fun v118 => (if v118 = 0 ∨ v118 = 1 then some (v118, σ) else none)))))
   else (if x1 = ((m_endAt σ) + 1) then (bo (fX6_in N ((m_page σ x1.toNatClampNeg).toInt64) 49 57) (fun v33 => (if v33 = 0 then (some (0, σ))
       else (some (1, σ)))))
     else (some (0, σ)))) else none)
def fX6_faultOf_7 (N : Nat) : Nat → SM → Int32 → Option (Int32 × SM)
  | 0, _, _ => none
  | n + 1, σ, x1 =>
  (if (m_pageMany σ) ≤ x1 then (some (x1, σ))
       else (bd (fX6_isGood N σ x1) (fun v17 σ17 => (if v17 = 0 then (some (x1, σ17))
         else (fX6_faultOf_7 N n σ17 (x1 + 1))))))
def fX6_faultOf (N : Nat) (σ : SM) : Option (Int32 × SM) :=
  (lb (sm_endAt σ (-1)) (fun σ2 => (fX6_faultOf_7 N N σ2 0)))
def fX6_fault (N : Nat) (σ : SM) : Option (Int32 × SM) :=
  (bd (fX6_faultOf N σ) (fun v1 σ1 => (some (v1, σ1))))
def fX6_hill_144 (N : Nat) : Nat → SM → Int32 → Option (Int32 × SM)
  | 0, _, _ => none
  | n + 1, σ, x1 =>
  (if 9 ≤ x1 then (lb (sm_days σ 0) (fun σ165 => (lb (sm_changes σ165 0) (fun σ170 => (lb (sm_askedMany σ170 0) (fun σ175 => (lb (sm_hillsRead σ175 ((m_hillsRead σ175) + 1)) (fun σ185 => (lb (sm_pageMany σ185 0) (fun σ190 => (some ((m_people σ190), σ190))))))))))))
       else (if inB x1 9 then (lb (sm_tunnels σ (upd (m_tunnels σ) x1.toNatClampNeg 0)) (fun σ156 => (fX6_hill_144 N n σ156 (x1 + 1)))) else none))
def fX6_hill_117 (N : Nat) (k49 : SM → Int32 → Option (Int32 × SM)) (σ : SM) (x1 : Int32) (z0 : Int32) (z1 : Int32) : Option (Int32 × SM) :=
  (if inB z1 12 then (lb (sm_rows σ (upd (m_rows σ) z1.toNatClampNeg z0)) (fun σ117 => (k49 σ117 (x1 + 1)))) else none)
def fX6_hill_112 (N : Nat) (k49 : SM → Int32 → Option (Int32 × SM)) (σ : SM) (x1 : Int32) (z0 : Int32) : Option (Int32 × SM) :=
  (fX6_hill_117 N k49 σ x1 (-1) z0)
def fX6_hill_49 (N : Nat) : Nat → SM → Int32 → Option (Int32 × SM)
  | 0, _, _ => none
  | n + 1, σ, x1 =>
  (if (m_people σ) ≤ x1 then (if inB ((m_endAt σ) + 1) 22 then (lb (sm_river σ ((m_page σ ((m_endAt σ) + 1).toNatClampNeg) - 48)) (fun σ139 => (fX6_hill_144 N N σ139 0))) else none)
       else (if inB ((3 * x1) + 1) 22 then (lb ((m_page σ ((3 * x1) + 1).toNatClampNeg) - 48) (fun y70 => (if inB (3 * x1) 22 then (bo (fX6_kindBy N (m_page σ (3 * x1).toNatClampNeg)) (fun v86 => (if inB (2 * x1) 12 then (lb (sm_rows σ (upd (m_rows σ) (2 * x1).toNatClampNeg v86)) (fun σ89 => (if y70 = x1 then (fX6_hill_112 N (fX6_hill_49 N n) σ89 x1 ((2 * x1) + 1))
         else (if y70 < (m_people σ89) then (fX6_hill_117 N (fX6_hill_49 N n) σ89 x1 y70 ((2 * x1) + 1))
           else (fX6_hill_112 N (fX6_hill_49 N n) σ89 x1 ((2 * x1) + 1)))))) else none))) else none))) else none))
def fX6_hill (N : Nat) (σ : SM) : Option (Int32 × SM) :=
  (bd (fX6_faultOf N σ) (fun v1 σ1 => (if v1 < (m_pageMany σ1) then (some ((-103), σ1))
   else (if (m_endAt σ1) = (-1) then (some ((-103), σ1))
     else (if (m_pageMany σ1) = ((m_endAt σ1) + 2) then (lb (sm_people σ1 (((m_endAt σ1) + 1) / 3)) (fun σ44 => (fX6_hill_49 N N σ44 0)))
       else (some ((-103), σ1)))))))
def fX6_lacks (N : Nat) (σ : SM) : Option Int32 :=
  (if (m_people σ) = 0 then (some 1)
   else (some 0))
def fX6_isPerson (N : Nat) (σ : SM) (x1 : Int32) : Option Int32 :=
  (bo (fX6_in N x1.toInt64 0 (((m_people σ) - 1).toInt64)) (fun v10 => (if v10 = 0 ∨ v10 = 1 then some v10 else none)))
def fX6_isTunnel (N : Nat) (σ : SM) (x1 : Int32) : Option Int32 :=
  (bo (fX6_lacks N σ) (fun v1 => (if v1 = 0 then (bo (fX6_in N x1.toInt64 0 2) (fun v13 => (if v13 = 0 then (some 0)
     else (some 1))))
   else (some 0))))
def fX6_tellsOf_52 (N : Nat) (σ : SM) (x1 : Int32) (x3 : Int32) (x4 : Int32) (z0 : Int32) : Option Int32 :=
  (if z0 = 0 then (some x4)
     else (if (m_people σ) ≤ (x3 + 1) then (some x4)
       else (if (x3 + 1) = x1 then (some x4)
         else (some (x4 ||| (1 <<< ((x3 + 1) &&& 31)))))))
def fX6_tellsOf_47 (N : Nat) (σ : SM) (x1 : Int32) (x3 : Int32) (x4 : Int32) : Option Int32 :=
  (fX6_tellsOf_52 N σ x1 x3 x4 1)
def fX6_tellsOf (N : Nat) (σ : SM) (x1 : Int32) : Option Int32 :=
  (if inB (2 * x1) 12 then (if inB ((2 * x1) + 1) 12 then (if (m_rows σ (2 * x1).toNatClampNeg) = 1 then (some 0)
   else (if (m_rows σ ((2 * x1) + 1).toNatClampNeg) = (-1) then (some 0)
     else (lb (1 <<< ((m_rows σ ((2 * x1) + 1).toNatClampNeg) &&& 31)) (fun y35 => (if (m_rows σ (2 * x1).toNatClampNeg) = 2 then (fX6_tellsOf_47 N σ x1 (m_rows σ ((2 * x1) + 1).toNatClampNeg) y35)
       else (if (m_rows σ (2 * x1).toNatClampNeg) = 4 then (fX6_tellsOf_47 N σ x1 (m_rows σ ((2 * x1) + 1).toNatClampNeg) y35)
         else (fX6_tellsOf_52 N σ x1 (m_rows σ ((2 * x1) + 1).toNatClampNeg) y35 0))))))) else none) else none)
def fX6_toldBy_4 (N : Nat) : Nat → SM → Int32 → Int32 → Int32 → Option Int32
  | 0, _, _, _, _ => none
  | n + 1, σ, x1, x2, x3 =>
  (if (m_people σ) ≤ x3 then (some x2)
       else (if ((x1 >>> (x3 &&& 31)) &&& 1) = 1 then (bo (fX6_tellsOf N σ x3) (fun v24 => (fX6_toldBy_4 N n σ x1 (x2 ||| v24) (x3 + 1))))
         else (fX6_toldBy_4 N n σ x1 (x2 ||| 0) (x3 + 1))))
def fX6_toldBy (N : Nat) (σ : SM) (x1 : Int32) : Option Int32 :=
  (fX6_toldBy_4 N N σ x1 0 0)
def fX6_endBy_5 (N : Nat) : Nat → SM → Int32 → Int32 → Option Int32
  | 0, _, _, _ => none
  | n + 1, σ, x3, x4 =>
  (if x4 = 0 then (some x3)
       else (bo (fX6_toldBy N σ x4) (fun v13 => (fX6_endBy_5 N n σ (x3 ||| (v13 &&& (x3 ^^^ (-1)))) (v13 &&& (x3 ^^^ (-1)))))))
def fX6_endBy (N : Nat) (σ : SM) (x1 : Int32) (x2 : Int32) : Option Int32 :=
  (fX6_endBy_5 N N σ x1 x2)
def fX6_yardsBy (N : Nat) (x0 : Int32) : Option Int32 :=
  (if x0 = 1 then (some (-1))
   else (if x0 = 3 then (some 2)
     else (if x0 = 4 then (some 2)
       else (some 1))))
def fX6_lengthBy_104 (N : Nat) (σ : SM) (x4 : Int32) (z0 : Int32) : Option Int32 :=
  (if z0 ≤ (m_river σ) then (some z0)
     else (if x4 = 0 then (some (m_river σ))
       else (some z0)))
def fX6_lengthBy_57 (N : Nat) (k9 : SM → Int32 → Int32 → Int32 → Int32 → Option Int32) (σ : SM) (x1 : Int32) (x4 : Int32) (x5 : Int32) (x6 : Int32) (z0 : Int32) (z1 : Int32) : Option Int32 :=
  (if x4 = 0 then (if x6 = 0 then (k9 σ x1 (z1 + z0) 0 (x5 + 1))
           else (if inB (2 * x5) 12 then (if (m_rows σ (2 * x5).toNatClampNeg) = 4 then (k9 σ x1 (z1 + z0) 1 (x5 + 1))
             else (k9 σ x1 (z1 + z0) 0 (x5 + 1))) else none))
         else (k9 σ x1 (z1 + z0) 1 (x5 + 1)))
def fX6_lengthBy_33 (N : Nat) (k9 : SM → Int32 → Int32 → Int32 → Int32 → Option Int32) (σ : SM) (x1 : Int32) (x3 : Int32) (x4 : Int32) (x5 : Int32) (z0 : Int32) : Option Int32 :=
  (if z0 = 0 then (fX6_lengthBy_57 N k9 σ x1 x4 x5 z0 0 x3)
         else (if inB (2 * x5) 12 then (bo (fX6_yardsBy N (m_rows σ (2 * x5).toNatClampNeg)) (fun v50 => (fX6_lengthBy_57 N k9 σ x1 x4 x5 z0 v50 x3))) else none))
def fX6_lengthBy_9 (N : Nat) : Nat → SM → Int32 → Int32 → Int32 → Int32 → Option Int32
  | 0, _, _, _, _, _ => none
  | n + 1, σ, x1, x3, x4, x5 =>
  (if (m_people σ) ≤ x5 then (if 0 ≤ x3 then (fX6_lengthBy_104 N σ x4 x3)
         else (fX6_lengthBy_104 N σ x4 0))
       else (if ((x1 >>> (x5 &&& 31)) &&& 1) = 1 then (fX6_lengthBy_33 N (fX6_lengthBy_9 N n) σ x1 x3 x4 x5 1)
         else (fX6_lengthBy_33 N (fX6_lengthBy_9 N n) σ x1 x3 x4 x5 0)))
def fX6_lengthBy (N : Nat) (σ : SM) (x1 : Int32) (x2 : Int32) : Option Int32 :=
  (fX6_lengthBy_9 N N σ x1 (-x2) 0 0)
def fX6_endsOf (N : Nat) (σ : SM) (x1 : Int32) : Option Int32 :=
  (bo (fX6_endBy N σ x1 x1) (fun v4 => (bo (fX6_lengthBy N σ v4 0) (fun v8 => (some v8)))))
def fX6_dayOf_47 (N : Nat) (σ : SM) (x4 : Int32) (x5 : Int32) : Option Int32 :=
  (if x4 = 0 then (some (-1))
     else (some x5))
def fX6_dayOf_10 (N : Nat) : Nat → SM → Int32 → Int32 → Int32 → Int32 → Option Int32
  | 0, _, _, _, _, _ => none
  | n + 1, σ, x1, x3, x4, x5 =>
  (if x4 = 0 then (fX6_dayOf_47 N σ x4 x5)
       else (if ((x4 >>> (x1 &&& 31)) &&& 1) = 0 then (bo (fX6_toldBy N σ x4) (fun v27 => (fX6_dayOf_10 N n σ x1 (x3 ||| (v27 &&& (x3 ^^^ (-1)))) (v27 &&& (x3 ^^^ (-1))) (x5 + 1))))
         else (fX6_dayOf_47 N σ x4 x5)))
def fX6_dayOf (N : Nat) (σ : SM) (x1 : Int32) (x2 : Int32) : Option Int32 :=
  (fX6_dayOf_10 N N σ x1 (1 <<< (x2 &&& 31)) (1 <<< (x2 &&& 31)) 0)
def fX6_lastsOf_4 (N : Nat) : Nat → SM → Int32 → Int32 → Int32 → Option Int32
  | 0, _, _, _, _ => none
  | n + 1, σ, x1, x2, x3 =>
  (if (m_people σ) ≤ x3 then (some x2)
       else (bo (fX6_dayOf N σ x3 x1) (fun v15 => (if v15 ≤ x2 then (fX6_lastsOf_4 N n σ x1 x2 (x3 + 1))
         else (fX6_lastsOf_4 N n σ x1 v15 (x3 + 1))))))
def fX6_lastsOf (N : Nat) (σ : SM) (x1 : Int32) : Option Int32 :=
  (fX6_lastsOf_4 N N σ x1 0 0)
def fX6_tunnelsOf_4 (N : Nat) : Nat → SM → Int32 → Int32 → Int32 → Option Int32
  | 0, _, _, _, _ => none
  | n + 1, σ, x1, x2, x3 =>
  (if 3 ≤ x3 then (some x2)
       else (if inB (3 * x3) 9 then (lb (x2 ||| ((((m_tunnels σ (3 * x3).toNatClampNeg) >>> (x1 &&& 31)) &&& 1) <<< (x3 &&& 31))) (fun y25 => (fX6_tunnelsOf_4 N n σ x1 y25 (x3 + 1)))) else none))
def fX6_tunnelsOf (N : Nat) (σ : SM) (x1 : Int32) : Option Int32 :=
  (fX6_tunnelsOf_4 N N σ x1 0 0)
def fX6_tellPerson (N : Nat) (σ : SM) (x1 : Int32) (x2 : Int32) : Option Int32 :=
  (if x2 = 0 then (if inB ((2 * x1) + x2) 12 then (some (m_rows σ ((2 * x1) + x2).toNatClampNeg)) else none)
   else (if x2 = 1 then (if inB ((2 * x1) + x2) 12 then (some (m_rows σ ((2 * x1) + x2).toNatClampNeg)) else none)
   else (if x2 = 2 then (bo (fX6_tellsOf N σ x1) (fun v53 => (some v53)))
   else (if x2 = 3 then (bo (fX6_tunnelsOf N σ x1) (fun v59 => (some v59)))
   else (if x2 = 4 then (bo (fX6_endsOf N σ (1 <<< (x1 &&& 31))) (fun v67 => (some v67)))
   else (if x2 = 5 then (bo (fX6_lastsOf N σ x1) (fun v73 => (some v73)))
   else (some (-102))))))))
def fX6_person (N : Nat) (σ : SM) (x1 : Int32) (x2 : Int32) : Option Int32 :=
  (bo (fX6_isPerson N σ x1) (fun v2 => (if v2 = 0 then (some (-101))
   else (bo (fX6_tellPerson N σ x1 x2) (fun v11 => (some v11))))))
def fX6_as_59 (N : Nat) (σ : SM) (x1 : Int32) (z0 : Int32) : Option Int32 :=
  (if z0 = 0 then (some (-1))
     else (some x1))
def fX6_as_58 (N : Nat) (σ : SM) (x1 : Int32) : Option Int32 :=
  (fX6_as_59 N σ x1 0)
def fX6_as_54 (N : Nat) (σ : SM) (x1 : Int32) : Option Int32 :=
  (fX6_as_59 N σ x1 1)
def fX6_as (N : Nat) (σ : SM) (x1 : Int32) (x2 : Int32) : Option Int32 :=
  (bo (fX6_isPerson N σ x1) (fun v2 => (if v2 = 0 then (some (-101))
   else (bo (fX6_in N x2.toInt64 0 4) (fun v17 => (if v17 = 0 then (some (-102))
     else (if inB (2 * x1) 12 then (if x2 = 0 then (fX6_as_54 N σ x1)
       else (if x2 = (m_rows σ (2 * x1).toNatClampNeg) then (fX6_as_54 N σ x1)
         else (if x2 = 2 then (if (m_rows σ (2 * x1).toNatClampNeg) = 4 then (fX6_as_54 N σ x1)
             else (fX6_as_58 N σ x1))
           else (fX6_as_58 N σ x1)))) else none)))))))
def fX6_next_54 (N : Nat) (σ : SM) (x3 : Int32) (z0 : Int32) (z1 : Int32) : Option (Int32 × SM) :=
  (if inB z1 12 then (lb (sm_rows σ (upd (m_rows σ) z1.toNatClampNeg z0)) (fun σ54 => (lb (sm_changes σ54 ((m_changes σ54) + 1)) (fun σ62 => (some (x3, σ62)))))) else none)
def fX6_next_24 (N : Nat) (σ : SM) (x1 : Int32) (x2 : Int32) : Option (Int32 × SM) :=
  (if inB ((2 * x1) + 1) 12 then (if x2 = x1 then (fX6_next_54 N σ (m_rows σ ((2 * x1) + 1).toNatClampNeg) (-1) ((2 * x1) + 1))
     else (fX6_next_54 N σ (m_rows σ ((2 * x1) + 1).toNatClampNeg) x2 ((2 * x1) + 1))) else none)
def fX6_next (N : Nat) (σ : SM) (x1 : Int32) (x2 : Int32) : Option (Int32 × SM) :=
  (bo (fX6_isPerson N σ x1) (fun v2 => (if v2 = 0 then (some ((-101), σ))
   else (if x2 = (-1) then (fX6_next_24 N σ x1 x2)
     else (bo (fX6_isPerson N σ x2) (fun v15 => (if v15 = 0 then (some ((-101), σ))
       else (fX6_next_24 N σ x1 x2))))))))
def fX6_lengthOf (N : Nat) (σ : SM) (x1 : Int32) : Option Int32 :=
  (if inB (3 * x1) 9 then (if inB ((3 * x1) + 2) 9 then (bo (fX6_lengthBy N σ (m_tunnels σ (3 * x1).toNatClampNeg) (m_tunnels σ ((3 * x1) + 2).toNatClampNeg)) (fun v19 => (some v19))) else none) else none)
def fX6_tell (N : Nat) (σ : SM) (x1 : Int32) (x2 : Int32) : Option (Int32 × SM) :=
  (bo (fX6_isTunnel N σ x1) (fun v2 => (if v2 = 0 then (some ((-101), σ))
   else (bo (fX6_isPerson N σ x2) (fun v10 => (if v10 = 0 then (some ((-101), σ))
     else (if inB (3 * x1) 9 then (if (((m_tunnels σ (3 * x1).toNatClampNeg) >>> (x2 &&& 31)) &&& 1) = 1 then (some ((-103), σ))
       else (if inB (3 * x1) 9 then (if inB (3 * x1) 9 then (lb (sm_tunnels σ (upd (m_tunnels σ) (3 * x1).toNatClampNeg ((m_tunnels σ (3 * x1).toNatClampNeg) ||| (1 <<< (x2 &&& 31))))) (fun σ51 => (if inB ((3 * x1) + 1) 9 then (if inB ((3 * x1) + 1) 9 then (lb (sm_tunnels σ51 (upd (m_tunnels σ51) ((3 * x1) + 1).toNatClampNeg ((m_tunnels σ51 ((3 * x1) + 1).toNatClampNeg) ||| (1 <<< (x2 &&& 31))))) (fun σ67 => (bo (fX6_lengthOf N σ67 x1) (fun v70 => (some (v70, σ67)))))) else none) else none))) else none) else none)) else none)))))))
def fX6_day_36 (N : Nat) : Nat → SM → Int32 → Int32 → Option (Int32 × SM)
  | 0, _, _, _ => none
  | n + 1, σ, x1, x2 =>
  (if 3 ≤ x2 then (some (x1, σ))
       else (if inB ((3 * x2) + 1) 9 then (bo (fX6_toldBy N σ (m_tunnels σ ((3 * x2) + 1).toNatClampNeg)) (fun v52 => (if inB (3 * x2) 9 then (lb (v52 &&& ((m_tunnels σ (3 * x2).toNatClampNeg) ^^^ (-1))) (fun y66 => (if inB (3 * x2) 9 then (if inB (3 * x2) 9 then (lb (sm_tunnels σ (upd (m_tunnels σ) (3 * x2).toNatClampNeg ((m_tunnels σ (3 * x2).toNatClampNeg) ||| y66))) (fun σ78 => (if inB ((3 * x2) + 1) 9 then (lb (sm_tunnels σ78 (upd (m_tunnels σ78) ((3 * x2) + 1).toNatClampNeg y66)) (fun σ89 => (bo (fX6_ones N y66) (fun v92 => (fX6_day_36 N n σ89 (x1 + v92) (x2 + 1)))))) else none))) else none) else none))) else none))) else none))
def fX6_day (N : Nat) (σ : SM) : Option (Int32 × SM) :=
  (bo (fX6_lacks N σ) (fun v1 => (if v1 = 0 then (if (m_days σ) = 99 then (some ((-104), σ))
     else (lb (sm_days σ ((m_days σ) + 1)) (fun σ29 => (fX6_day_36 N N σ29 0 0))))
   else (some ((-103), σ)))))
def fX6_deny (N : Nat) (σ : SM) (x1 : Int32) : Option (Int32 × SM) :=
  (bo (fX6_isTunnel N σ x1) (fun v2 => (if v2 = 0 then (some ((-101), σ))
   else (if inB ((3 * x1) + 2) 9 then (if (m_tunnels σ ((3 * x1) + 2).toNatClampNeg) = 9 then (some ((-104), σ))
     else (if inB ((3 * x1) + 2) 9 then (if inB ((3 * x1) + 2) 9 then (lb (sm_tunnels σ (upd (m_tunnels σ) ((3 * x1) + 2).toNatClampNeg ((m_tunnels σ ((3 * x1) + 2).toNatClampNeg) + 1))) (fun σ42 => (bo (fX6_lengthOf N σ42 x1) (fun v45 => (some (v45, σ42)))))) else none) else none)) else none))))
def fX6_tellTunnel (N : Nat) (σ : SM) (x1 : Int32) (x2 : Int32) : Option Int32 :=
  (bo (fX6_in N x2.toInt64 1 3) (fun v6 => (if v6 = 0 then (if x2 = 4 then (if inB (3 * x1) 9 then (if inB ((3 * x1) + 1) 9 then (bo (fX6_endBy N σ (m_tunnels σ (3 * x1).toNatClampNeg) (m_tunnels σ ((3 * x1) + 1).toNatClampNeg)) (fun v50 => (if inB ((3 * x1) + 2) 9 then (bo (fX6_lengthBy N σ v50 (m_tunnels σ ((3 * x1) + 2).toNatClampNeg)) (fun v63 => (some v63))) else none))) else none) else none)
     else (if x2 = 0 then (bo (fX6_lengthOf N σ x1) (fun v73 => (some v73)))
       else (some (-102))))
   else (if inB (((3 * x1) + x2) - 1) 9 then (some (m_tunnels σ (((3 * x1) + x2) - 1).toNatClampNeg)) else none))))
def fX6_tunnel (N : Nat) (σ : SM) (x1 : Int32) (x2 : Int32) : Option Int32 :=
  (bo (fX6_isTunnel N σ x1) (fun v2 => (if v2 = 0 then (some (-101))
   else (bo (fX6_tellTunnel N σ x1 x2) (fun v11 => (some v11))))))
def fX6_aimOf_38 (N : Nat) (k5 : SM → Int32 → Int32 → Int32 → Int32 → Option Int32) (σ : SM) (x1 : Int32) (x2 : Int32) (x3 : Int32) (x4 : Int32) (z0 : Int32) : Option Int32 :=
  (if z0 = 0 then (k5 σ x1 x2 x3 (x4 + 1))
         else (bo (fX6_endsOf N σ x4) (fun v48 => (if v48 = x1 then (k5 σ x1 x2 x4 (x4 + 1))
           else (k5 σ x1 x2 x3 (x4 + 1))))))
def fX6_aimOf_33 (N : Nat) (k5 : SM → Int32 → Int32 → Int32 → Int32 → Option Int32) (σ : SM) (x1 : Int32) (x2 : Int32) (x3 : Int32) (x4 : Int32) : Option Int32 :=
  (fX6_aimOf_38 N k5 σ x1 x2 x3 x4 1)
def fX6_aimOf_5 (N : Nat) : Nat → SM → Int32 → Int32 → Int32 → Int32 → Option Int32
  | 0, _, _, _, _, _ => none
  | n + 1, σ, x1, x2, x3, x4 =>
  (if (1 <<< ((m_people σ) &&& 31)) ≤ x4 then (if x3 = (-1) then (some x3)
         else (if x2 = 1 then (some x3)
           else (bo (fX6_ones N x3) (fun v83 => (some v83)))))
       else (if x3 = (-1) then (fX6_aimOf_33 N (fX6_aimOf_5 N n) σ x1 x2 x3 x4)
         else (bo (fX6_ones N x4) (fun v23 => (bo (fX6_ones N x3) (fun v27 => (if v27 ≤ v23 then (fX6_aimOf_38 N (fX6_aimOf_5 N n) σ x1 x2 x3 x4 0)
           else (fX6_aimOf_33 N (fX6_aimOf_5 N n) σ x1 x2 x3 x4))))))))
def fX6_aimOf (N : Nat) (σ : SM) (x1 : Int32) (x2 : Int32) : Option Int32 :=
  (fX6_aimOf_5 N N σ x1 x2 (-1) 1)
def fX6_aim (N : Nat) (σ : SM) (x1 : Int32) (x2 : Int32) : Option Int32 :=
  (bo (fX6_in N x1.toInt64 1 12) (fun v6 => (if v6 = 0 then (some (-102))
   else (bo (fX6_in N x2.toInt64 0 1) (fun v16 => (if v16 = 0 then (some (-102))
     else (bo (fX6_lacks N σ) (fun v26 => (if v26 = 0 then (bo (fX6_aimOf N σ x1 x2) (fun v40 => (some v40)))
       else (some (-103)))))))))))
def fX6_heard (N : Nat) (σ : SM) (x1 : Int32) (x2 : Int32) : Option (Int32 × SM) :=
  (bo (fX6_isPerson N σ x1) (fun v2 => (if v2 = 0 then (some ((-101), σ))
   else (bo (fX6_in N x2.toInt64 (-1) 9) (fun v19 => (if v19 = 0 then (some ((-102), σ))
     else (if (m_askedMany σ) = 8 then (some ((-104), σ))
       else (if inB (2 * (m_askedMany σ)) 16 then (lb (sm_askeds σ (upd (m_askeds σ) (2 * (m_askedMany σ)).toNatClampNeg x1)) (fun σ51 => (if inB ((2 * (m_askedMany σ51)) + 1) 16 then (lb (sm_askeds σ51 (upd (m_askeds σ51) ((2 * (m_askedMany σ51)) + 1).toNatClampNeg x2)) (fun σ65 => (lb (sm_askedMany σ65 ((m_askedMany σ65) + 1)) (fun σ73 => (some ((m_askedMany σ73), σ73)))))) else none))) else none))))))))
def fX6_forget (N : Nat) (σ : SM) : Option (Int32 × SM) :=
  (lb (sm_askedMany σ 0) (fun σ7 => (some ((m_askedMany σ), σ7))))
def fX6_beganOf_17 (N : Nat) (k4 : SM → Int32 → Int32 → Option Int32) : Nat → SM → Int32 → Int32 → Int32 → Int32 → Option Int32
  | 0, _, _, _, _, _ => none
  | n + 1, σ, x1, x2, x3, x4 =>
  (if (m_askedMany σ) ≤ x4 then (if x3 = 0 then (k4 σ (x1 ||| 0) (x2 + 1))
             else (k4 σ (x1 ||| (1 <<< (x2 &&& 31))) (x2 + 1)))
           else (if x3 = 0 then (fX6_beganOf_17 N k4 n σ x1 x2 0 (x4 + 1))
             else (if inB (2 * x4) 16 then (bo (fX6_dayOf N σ (m_askeds σ (2 * x4).toNatClampNeg) x2) (fun v41 => (if inB ((2 * x4) + 1) 16 then (if v41 = (m_askeds σ ((2 * x4) + 1).toNatClampNeg) then (fX6_beganOf_17 N k4 n σ x1 x2 1 (x4 + 1))
               else (fX6_beganOf_17 N k4 n σ x1 x2 0 (x4 + 1))) else none))) else none)))
def fX6_beganOf_4 (N : Nat) : Nat → SM → Int32 → Int32 → Option Int32
  | 0, _, _, _ => none
  | n + 1, σ, x1, x2 =>
  (if (m_people σ) ≤ x2 then (some x1)
       else (fX6_beganOf_17 N (fX6_beganOf_4 N n) N σ x1 x2 1 0))
def fX6_beganOf (N : Nat) (σ : SM) : Option Int32 :=
  (fX6_beganOf_4 N N σ 0 0)
def fX6_began (N : Nat) (σ : SM) : Option Int32 :=
  (bo (fX6_lacks N σ) (fun v1 => (if v1 = 0 then (bo (fX6_beganOf N σ) (fun v13 => (some v13)))
   else (some (-103)))))
def fX6_askOf_137 (N : Nat) (k13 : SM → Int32 → Int32 → Int32 → Int32 → Option (Int32 × SM)) (σ : SM) (x1 : Int32) (x3 : Int32) (x4 : Int32) (x5 : Int32) (z0 : Int32) : Option (Int32 × SM) :=
  (if x3 ≤ x5 then (k13 σ x1 z0 x3 (x4 + 1))
         else (k13 σ x1 z0 x5 (x4 + 1)))
def fX6_askOf_56 (N : Nat) (k13 : SM → Int32 → Int32 → Int32 → Int32 → Option (Int32 × SM)) : Nat → SM → Int32 → Int32 → Int32 → Int32 → Int32 → Int32 → Option (Int32 × SM)
  | 0, _, _, _, _, _, _, _ => none
  | n + 1, σ, x1, x2, x3, x4, x5, x6 =>
  (if (m_people σ) ≤ x6 then (if x3 ≤ x5 then (fX6_askOf_137 N k13 σ x1 x3 x4 x5 x2)
             else (fX6_askOf_137 N k13 σ x1 x3 x4 x5 x4))
           else (bo (fX6_dayOf N σ x4 x6) (fun v70 => (if inB (v70 + 1) 8 then (if inB (v70 + 1) 8 then (lb (sm_parts σ (upd (m_parts σ) (v70 + 1).toNatClampNeg ((m_parts σ (v70 + 1).toNatClampNeg) + ((x1 >>> (x6 &&& 31)) &&& 1)))) (fun σ92 => (if inB (v70 + 1) 8 then (if (m_parts σ92 (v70 + 1).toNatClampNeg) ≤ x5 then (fX6_askOf_56 N k13 n σ92 x1 x2 x3 x4 x5 (x6 + 1))
             else (if inB (v70 + 1) 8 then (fX6_askOf_56 N k13 n σ92 x1 x2 x3 x4 (m_parts σ92 (v70 + 1).toNatClampNeg) (x6 + 1)) else none)) else none))) else none) else none))))
def fX6_askOf_29 (N : Nat) (k13 : SM → Int32 → Int32 → Int32 → Int32 → Option (Int32 × SM)) : Nat → SM → Int32 → Int32 → Int32 → Int32 → Int32 → Option (Int32 × SM)
  | 0, _, _, _, _, _, _ => none
  | n + 1, σ, x1, x2, x3, x4, x5 =>
  (if 8 ≤ x5 then (fX6_askOf_56 N k13 N σ x1 x2 x3 x4 0 0)
           else (if inB x5 8 then (lb (sm_parts σ (upd (m_parts σ) x5.toNatClampNeg 0)) (fun σ43 => (fX6_askOf_29 N k13 n σ43 x1 x2 x3 x4 (x5 + 1)))) else none))
def fX6_askOf_13 (N : Nat) : Nat → SM → Int32 → Int32 → Int32 → Int32 → Option (Int32 × SM)
  | 0, _, _, _, _, _ => none
  | n + 1, σ, x1, x2, x3, x4 =>
  (if (m_people σ) ≤ x4 then (some (x2, σ))
       else (if x1 = 0 then (some (x2, σ))
         else (fX6_askOf_29 N (fX6_askOf_13 N n) N σ x1 x2 x3 x4 0)))
def fX6_askOf (N : Nat) (σ : SM) : Option (Int32 × SM) :=
  (bo (fX6_beganOf N σ) (fun v1 => (fX6_askOf_13 N N σ v1 (-1) 7 0)))
def fX6_ask (N : Nat) (σ : SM) : Option (Int32 × SM) :=
  (bo (fX6_lacks N σ) (fun v1 => (if v1 = 0 then (bd (fX6_askOf N σ) (fun v13 σ13 => (some (v13, σ13))))
   else (some ((-103), σ)))))
def fX6_draw (N : Nat) (σ : SM) (x1 : Int32) : Option (Int32 × SM) :=
  (lb (sm_seedNow σ ((((1103515245 * ((m_seedNow σ).toInt64)) + 12345) &&& 2147483647).toInt32)) (fun σ19 => (if ¬ x1 = 0 then (some ((((m_seedNow σ19) / 65536) - ((m_seedNow σ19) / 65536) / x1 * x1), σ19)) else none)))
def fX6_markets_55 (N : Nat) : Nat → SM → Int32 → Int32 → Int32 → Int32 → Int32 → Option (Int32 × SM)
  | 0, _, _, _, _, _, _ => none
  | n + 1, σ, x1, x3, x4, x5, x6 =>
  (if x1 ≤ x6 then (if x3 = 0 then (some (x4, σ))
         else (if x3 = 1 then (some (x5, σ))
           else (some ((m_seedNow σ), σ))))
       else (bd (fX6_draw N σ (m_people σ)) (fun v68 σ68 => (bo (fX6_endsOf N σ68 (1 <<< (v68 &&& 31))) (fun v72 => (if v72 ≤ x5 then (fX6_markets_55 N n σ68 x1 x3 (x4 + v72) x5 (x6 + 1))
         else (fX6_markets_55 N n σ68 x1 x3 (x4 + v72) v72 (x6 + 1))))))))
def fX6_markets (N : Nat) (σ : SM) (x1 : Int32) (x2 : Int32) (x3 : Int32) : Option (Int32 × SM) :=
  (bo (fX6_in N x1.toInt64 1 60) (fun v6 => (if v6 = 0 then (some ((-102), σ))
   else (if x2 < 0 then (some ((-102), σ))
     else (bo (fX6_in N x3.toInt64 0 2) (fun v22 => (if v22 = 0 then (some ((-102), σ))
       else (bo (fX6_lacks N σ) (fun v32 => (if v32 = 0 then (lb (sm_seedNow σ x2) (fun σ43 => (fX6_markets_55 N N σ43 x1 x3 0 0 0)))
         else (some ((-103), σ))))))))))))
def fX6_image (N : Nat) (σ : SM) : Option (Int32 × SM) :=
  (bo (fX6_lacks N σ) (fun v1 => (if v1 = 0 then (bo (fX6_copy_2_6 N σ) (fun σ18 => (bo (fX6_copy_3_7 N σ18) (fun σ29 => (bo (fX6_copy_4_8 N σ29) (fun σ40 => (lb (sm_keptDays σ40 (m_days σ40)) (fun σ48 => (lb (sm_keptChanges σ48 (m_changes σ48)) (fun σ56 => (lb (sm_keptAsked σ56 (m_askedMany σ56)) (fun σ64 => (lb (sm_keptHill σ64 (m_hillsRead σ64)) (fun σ72 => (some ((m_days σ72), σ72))))))))))))))))
   else (some ((-103), σ)))))
def fX6_restore (N : Nat) (σ : SM) : Option (Int32 × SM) :=
  (if (m_keptHill σ) = (m_hillsRead σ) then (bo (fX6_copy_6_2 N σ) (fun σ22 => (bo (fX6_copy_7_3 N σ22) (fun σ33 => (bo (fX6_copy_8_4 N σ33) (fun σ44 => (lb (sm_days σ44 (m_keptDays σ44)) (fun σ52 => (lb (sm_changes σ52 (m_keptChanges σ52)) (fun σ60 => (lb (sm_askedMany σ60 (m_keptAsked σ60)) (fun σ68 => (some ((m_days σ68), σ68))))))))))))))
   else (some ((-103), σ)))
def fX6_lengthAll_4 (N : Nat) : Nat → SM → Int32 → Int32 → Option Int32
  | 0, _, _, _ => none
  | n + 1, σ, x1, x2 =>
  (if 3 ≤ x2 then (some x1)
       else (bo (fX6_lacks N σ) (fun v10 => (if v10 = 0 then (bo (fX6_lengthOf N σ x2) (fun v19 => (fX6_lengthAll_4 N n σ (x1 + v19) (x2 + 1))))
         else (some x1)))))
def fX6_lengthAll (N : Nat) (σ : SM) : Option Int32 :=
  (fX6_lengthAll_4 N N σ 0 0)
def fX6_heardAll (N : Nat) (σ : SM) : Option Int32 :=
  (bo (fX6_ones N (m_tunnels σ (0 : Int32).toNatClampNeg)) (fun v6 => (bo (fX6_ones N (m_tunnels σ (3 : Int32).toNatClampNeg)) (fun v15 => (bo (fX6_ones N (m_tunnels σ (6 : Int32).toNatClampNeg)) (fun v26 => (some ((v6 + v15) + v26))))))))
def fX6_countOf (N : Nat) (σ : SM) (x1 : Int32) : Option Int32 :=
  (if x1 = 0 then (some (m_people σ))
   else (if x1 = 1 then (some (m_river σ))
   else (if x1 = 2 then (some (m_days σ))
   else (if x1 = 3 then (bo (fX6_lengthAll N σ) (fun v68 => (some v68)))
   else (if x1 = 4 then (bo (fX6_heardAll N σ) (fun v73 => (some v73)))
   else (if x1 = 5 then (some (m_changes σ))
   else (if x1 = 6 then (some (m_askedMany σ))
   else (if x1 = 7 then (some (m_pageMany σ))
   else (if x1 = 8 then (some (m_hillsRead σ))
   else (some (-102)))))))))))
def fX6_count (N : Nat) (σ : SM) (x1 : Int32) : Option Int32 :=
  (bo (fX6_countOf N σ x1) (fun v2 => (some v2)))
def fX6_say (N : Nat) (σ : SM) (x1 : Int64) : Option SM :=
  (lb (sm_hash σ ((31 * (m_hash σ)) + x1)) (fun σ11 => (some σ11)))
def fX6_sayHill_9 (N : Nat) (k2 : SM → Int32 → Option SM) : Nat → SM → Int32 → Int32 → Option SM
  | 0, _, _, _ => none
  | n + 1, σ, x1, x2 =>
  (if 5 ≤ x2 then (k2 σ (x1 + 1))
           else (bo (fX6_tellTunnel N σ x1 x2) (fun v18 => (bo (fX6_say N σ v18.toInt64) (fun σ22 => (fX6_sayHill_9 N k2 n σ22 x1 (x2 + 1)))))))
def fX6_sayHill_2 (N : Nat) : Nat → SM → Int32 → Option SM
  | 0, _, _ => none
  | n + 1, σ, x1 =>
  (if 3 ≤ x1 then (bo (fX6_aimOf N σ 3 0) (fun v41 => (bo (fX6_say N σ v41.toInt64) (fun σ45 => (bo (fX6_aimOf N σ45 3 1) (fun v52 => (bo (fX6_say N σ45 v52.toInt64) (fun σ56 => (bo (fX6_aimOf N σ56 7 0) (fun v64 => (bo (fX6_say N σ56 v64.toInt64) (fun σ68 => (bo (fX6_aimOf N σ68 7 1) (fun v76 => (bo (fX6_say N σ68 v76.toInt64) (fun σ80 => (bo (fX6_beganOf N σ80) (fun v85 => (bo (fX6_say N σ80 v85.toInt64) (fun σ89 => (bd (fX6_askOf N σ89) (fun v94 σ94 => (bo (fX6_say N σ94 v94.toInt64) (fun σ98 => (some σ98)))))))))))))))))))))))))
       else (fX6_sayHill_9 N (fX6_sayHill_2 N n) N σ x1 0))
def fX6_sayHill (N : Nat) (σ : SM) : Option SM :=
  (fX6_sayHill_2 N N σ 0)
def fX6_digest_88 (N : Nat) : Nat → SM → Int32 → Option (Int64 × SM)
  | 0, _, _ => none
  | n + 1, σ, x1 =>
  (if 9 ≤ x1 then (some ((m_hash σ), σ))
       else (bo (fX6_countOf N σ x1) (fun v97 => (bo (fX6_say N σ v97.toInt64) (fun σ101 => (fX6_digest_88 N n σ101 (x1 + 1)))))))
def fX6_digest_61 (N : Nat) : Nat → SM → Int32 → Option (Int64 × SM)
  | 0, _, _ => none
  | n + 1, σ, x1 =>
  (if (m_pageMany σ) ≤ x1 then (fX6_digest_88 N N σ 0)
       else (if inB x1 22 then (bo (fX6_say N σ ((m_page σ x1.toNatClampNeg).toInt64)) (fun σ77 => (fX6_digest_61 N n σ77 (x1 + 1)))) else none))
def fX6_digest_19 (N : Nat) (k9 : SM → Int32 → Option (Int64 × SM)) : Nat → SM → Int32 → Int32 → Option (Int64 × SM)
  | 0, _, _, _ => none
  | n + 1, σ, x1, x2 =>
  (if 6 ≤ x2 then (k9 σ (x1 + 1))
           else (bo (fX6_tellPerson N σ x1 x2) (fun v29 => (bo (fX6_say N σ v29.toInt64) (fun σ33 => (fX6_digest_19 N k9 n σ33 x1 (x2 + 1)))))))
def fX6_digest_9 (N : Nat) : Nat → SM → Int32 → Option (Int64 × SM)
  | 0, _, _ => none
  | n + 1, σ, x1 =>
  (if (m_people σ) ≤ x1 then (bo (fX6_lacks N σ) (fun v49 => (if v49 = 0 then (bo (fX6_sayHill N σ) (fun σ56 => (fX6_digest_61 N N σ56 0)))
         else (fX6_digest_61 N N σ 0))))
       else (fX6_digest_19 N (fX6_digest_9 N n) N σ x1 0))
def fX6_digest (N : Nat) (σ : SM) : Option (Int64 × SM) :=
  (lb (sm_hash σ 1069) (fun σ4 => (fX6_digest_9 N N σ4 0)))
