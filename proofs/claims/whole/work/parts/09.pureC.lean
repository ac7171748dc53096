/-! ===== the methods as pure functions, by program out of the bytecode ===== -/
def fX1_put (N : Nat) (σ : SC) (x1 : Int32) : Option (Int32 × SC) :=
  (if (c_plen σ) < 0 then (some (0, σ))
   else (if (c_plen σ) < 22 then (if inB (c_plen σ) 22 then (lb (sc_codes σ (upd (c_codes σ) (c_plen σ).toNatClampNeg x1)) (fun σ30 => (lb (sc_plen σ30 ((c_plen σ30) + 1)) (fun σ38 => (some (1, σ38)))))) else none)
     else (some (0, σ))))
def fX5_letter (N : Nat) (σ : SC) (x1 : Int32) : Option (Int32 × SC) :=
  (if x1 < 1 then (some ((-102), σ))
   else (if x1 ≤ 126 then (bd (fX1_put N σ x1) (fun v19 σ19 => (if v19 = 0 then (some ((-104), σ19))
       else (some ((c_plen σ19), σ19)))))
     else (some ((-102), σ))))
def fX1_clear (N : Nat) (σ : SC) : Option SC :=
  (lb (sc_plen σ 0) (fun σ2 => (some σ2)))
def fX5_blank (N : Nat) (σ : SC) : Option (Int32 × SC) :=
  (bo (fX1_clear N σ) (fun σ12 => (some ((c_plen σ), σ12))))
def fX1_codeAt (N : Nat) (σ : SC) (x1 : Int32) : Option Int32 :=
  (if x1 < 0 then (some 0)
   else (if (c_plen σ) ≤ x1 then (some 0)
     else (if 22 ≤ x1 then (some 0)
       else (if inB x1 22 then (some (c_codes σ x1.toNatClampNeg)) else none))))
def fJ0_isLatin1_aae02 (N : Nat) : Option Int32 :=
  (if (1 : Int32) = 0 then (some 0)
   else (if (0 : Int32) = 0 then (some 1)
     else (some 0)))
def fJ0_coder_7d493 (N : Nat) : Option Int32 :=
  (if (1 : Int32) = 0 then (some 1)
   else (some 0))
def fJ0_length_8abf5 (N : Nat) : Option Int32 :=
  (bo (fJ0_coder_7d493 N) (fun v6 => (some (5 >>> (v6 &&& 31)))))
def fJ1_canEncode_9a6ad (N : Nat) (x0 : Int32) : Option Int32 :=
  (if x0 < 0 then (some 0)
   else (if 255 < x0 then (some 0)
     else (some 1)))
def fJ1_indexOfChar_4cfef_7 (N : Nat) : Nat → Int32 → Int32 → Int32 → Option Int32
  | 0, _, _, _ => none
  | n + 1, x3, x4, x5 =>
  (if x3 ≤ x5 then (some (-1))
       else (if inB x5 5 then (if ((([[109, 115, 103, 99, 112]] : List (List Int32)).getD 0 []).getD x5.toNatClampNeg 0) = x4 then (some x5)
         else (fJ1_indexOfChar_4cfef_7 N n x3 x4 (x5 + 1))) else none))
def fJ1_indexOfChar_4cfef (N : Nat) (x1 : Int32) (x2 : Int32) (x3 : Int32) : Option Int32 :=
  (fJ1_indexOfChar_4cfef_7 N N x3 x1.toInt8.toInt32 x2)
def fJ1_indexOf_4cfef (N : Nat) (x1 : Int32) (x2 : Int32) (x3 : Int32) : Option Int32 :=
  (bo (fJ1_canEncode_9a6ad N x1) (fun v1 => (if v1 = 0 then (some (-1))
   else (if (if x2 < 0 then 0 else x2) < (if 5 < x3 then 5 else x3) then (bo (fJ1_indexOfChar_4cfef N x1 (if x2 < 0 then 0 else x2) (if 5 < x3 then 5 else x3)) (fun v33 => (some v33)))
     else (some (-1))))))
def fJ0_indexOf_7cf53 (N : Nat) (x1 : Int32) (x2 : Int32) : Option Int32 :=
  (bo (fJ0_isLatin1_aae02 N) (fun v1 => (if v1 = 0 then none
   else (bo (fJ0_length_8abf5 N) (fun v14 => (bo (fJ1_indexOf_4cfef N x1 x2 v14) (fun v17 => (some v17))))))))
def fJ0_indexOf_0f7a4 (N : Nat) (x1 : Int32) : Option Int32 :=
  (bo (fJ0_indexOf_7cf53 N x1 0) (fun v3 => (some v3)))
def fX1_kindOfLetter (N : Nat) (x0 : Int32) : Option Int32 :=
  (bo (fJ0_indexOf_0f7a4 N ((x0.toUInt32 % 65536).toInt32)) (fun v4 => (some v4)))
def fX1_fits_130 (N : Nat) (σ : SC) (x2 : Int32) (x3 : Int32) : Option Int32 :=
  (if x2 = 59 then (if (x3 + 1) < 2 then (some 0)
       else (some 1))
     else (some 0))
def fX1_fits (N : Nat) (σ : SC) (x1 : Int32) : Option Int32 :=
  (bo (fX1_codeAt N σ x1) (fun v2 => (if (x1 - x1 / 3 * 3) = 0 then (bo (fX1_codeAt N σ (x1 - 1)) (fun v44 => (if v44 = 59 then (if v2 < 49 then (some 0)
       else (if 57 < v2 then (some 0)
         else (some 1)))
     else (bo (fX1_kindOfLetter N v2) (fun v73 => (if v73 = (-1) then (some 0)
       else (some 1)))))))
   else (if (x1 - x1 / 3 * 3) = 1 then (bo (fX1_codeAt N σ (x1 - 2)) (fun v90 => (if v90 = 59 then (some 0)
     else (if v2 < 48 then (some 0)
       else (if 57 < v2 then (some 0)
         else (some 1))))))
   else (if v2 = 44 then (if ((x1 / 3) + 1) < 6 then (some 1)
     else (fX1_fits_130 N σ v2 (x1 / 3)))
   else (fX1_fits_130 N σ v2 (x1 / 3)))))))
def fX1_firstFault_2 (N : Nat) : Nat → SC → Int32 → Option Int32
  | 0, _, _ => none
  | n + 1, σ, x1 =>
  (if (c_plen σ) ≤ x1 then (some (c_plen σ))
       else (bo (fX1_fits N σ x1) (fun v12 => (if v12 = 0 then (some x1)
         else (fX1_firstFault_2 N n σ (x1 + 1))))))
def fX1_firstFault (N : Nat) (σ : SC) : Option Int32 :=
  (fX1_firstFault_2 N N σ 0)
def fX5_fault (N : Nat) (σ : SC) : Option Int32 :=
  (bo (fX1_firstFault N σ) (fun v4 => (some v4)))
def fX1_isHill (N : Nat) (σ : SC) : Option Int32 :=
  (bo (fX1_codeAt N σ ((c_plen σ) - 2)) (fun v7 => (if v7 = 59 then (bo (fX1_firstFault N σ) (fun v16 => (if v16 = (c_plen σ) then (some 1)
     else (some 0))))
   else (some 0))))
def fX1_peopleWritten (N : Nat) (σ : SC) : Option Int32 :=
  (some ((c_plen σ) / 3))
def fX1_riverWritten (N : Nat) (σ : SC) : Option Int32 :=
  (bo (fX1_codeAt N σ ((c_plen σ) - 1)) (fun v7 => (some (v7 - 48))))
def fX1_kindWritten (N : Nat) (σ : SC) (x1 : Int32) : Option Int32 :=
  (bo (fX1_codeAt N σ (x1 * 3)) (fun v4 => (bo (fX1_kindOfLetter N v4) (fun v7 => (some v7)))))
def fX0_read_23 (N : Nat) : Nat → SC → Int32 → Option SC
  | 0, _, _ => none
  | n + 1, σ, x2 =>
  (if (c_people σ) ≤ x2 then (some σ)
       else (bo (fX1_kindWritten N σ x2) (fun v38 => (if inB x2 6 then (lb (sc_kinds σ (upd (c_kinds σ) x2.toNatClampNeg v38)) (fun σ41 => (fX0_read_23 N n σ41 (x2 + 1)))) else none))))
def fX0_read (N : Nat) (σ : SC) : Option SC :=
  (bo (fX1_peopleWritten N σ) (fun v2 => (lb (sc_people σ (if 6 < v2 then 6 else v2)) (fun σ10 => (bo (fX1_riverWritten N σ10) (fun v15 => (lb (sc_river σ10 v15) (fun σ18 => (fX0_read_23 N N σ18 0)))))))))
def fX2_setNext (N : Nat) (σ : SC) (x1 : Int32) (x2 : Int32) (x3 : Int32) : Option SC :=
  (if x1 < 0 then (some σ)
   else (if 6 ≤ x1 then (some σ)
     else (if 6 ≤ x1 then (some σ)
       else (if inB x1 6 then (lb (sc_nexts σ (upd (c_nexts σ) x1.toNatClampNeg x2)) (fun σ28 => (if inB x1 6 then (lb (sc_lsts σ28 (upd (c_lsts σ28) x1.toNatClampNeg x3)) (fun σ35 => (some σ35))) else none))) else none))))
def fX2_begin_23 (N : Nat) : Nat → SC → Int32 → Option SC
  | 0, _, _ => none
  | n + 1, σ, x1 =>
  (if 3 ≤ x1 then (lb (sc_asked σ 0) (fun σ57 => (lb (sc_days σ57 0) (fun σ62 => (lb (sc_changes σ62 0) (fun σ67 => (some σ67)))))))
       else (if inB x1 3 then (lb (sc_heard σ (upd (c_heard σ) x1.toNatClampNeg 0)) (fun σ34 => (if inB x1 3 then (lb (sc_last σ34 (upd (c_last σ34) x1.toNatClampNeg 0)) (fun σ41 => (if inB x1 3 then (lb (sc_denied σ41 (upd (c_denied σ41) x1.toNatClampNeg 0)) (fun σ48 => (fX2_begin_23 N n σ48 (x1 + 1)))) else none))) else none))) else none))
def fX2_begin_2 (N : Nat) : Nat → SC → Int32 → Option SC
  | 0, _, _ => none
  | n + 1, σ, x1 =>
  (if 6 ≤ x1 then (fX2_begin_23 N N σ 0)
       else (bo (fX2_setNext N σ x1 (-1) 0) (fun σ12 => (fX2_begin_2 N n σ12 (x1 + 1)))))
def fX2_begin (N : Nat) (σ : SC) : Option SC :=
  (fX2_begin_2 N N σ 0)
def fX1_nextWritten (N : Nat) (σ : SC) (x1 : Int32) : Option Int32 :=
  (bo (fX1_codeAt N σ ((x1 * 3) + 1)) (fun v6 => (some (v6 - 48))))
def fX0_has (N : Nat) (σ : SC) (x1 : Int32) : Option Int32 :=
  (if x1 < 0 then (some 0)
   else (if (c_people σ) ≤ x1 then (some 0)
     else (some 1)))
def fX0_kindOf (N : Nat) (σ : SC) (x1 : Int32) : Option Int32 :=
  (if x1 < 0 then (some 0)
   else (if 6 ≤ x1 then (some 0)
     else (if inB x1 6 then (some (c_kinds σ x1.toNatClampNeg)) else none)))
def fX5_isOfKind (N : Nat) (x0 : Int32) (x1 : Int32) : Option Int32 :=
  (if x1 = 0 then (some 1)
   else (if x1 = x0 then (some 1)
     else (if x1 = 2 then (if x0 = 4 then (some 1)
         else (some 0))
       else (some 0))))
def fX0_listeners_54 (N : Nat) (σ : SC) (x2 : Int32) (x4 : Int32) (z0 : Int32) : Option Int32 :=
  (if z0 = 0 then (some (1 <<< (x2 &&& 31)))
     else (some ((1 <<< (x2 &&& 31)) ||| (1 <<< (x4 &&& 31)))))
def fX0_listeners_53 (N : Nat) (σ : SC) (x2 : Int32) (x4 : Int32) : Option Int32 :=
  (fX0_listeners_54 N σ x2 x4 0)
def fX0_listeners (N : Nat) (σ : SC) (x1 : Int32) (x2 : Int32) : Option Int32 :=
  (bo (fX0_kindOf N σ x1) (fun v2 => (if v2 = 1 then (some 0)
   else (bo (fX0_has N σ x2) (fun v13 => (if v13 = 0 then (some 0)
     else (bo (fX5_isOfKind N v2 2) (fun v28 => (if v28 = 0 then (fX0_listeners_53 N σ x2 (x2 + 1))
       else (bo (fX0_has N σ (x2 + 1)) (fun v37 => (if v37 = 0 then (fX0_listeners_53 N σ x2 (x2 + 1))
         else (if (x2 + 1) = x1 then (fX0_listeners_53 N σ x2 (x2 + 1))
           else (fX0_listeners_54 N σ x2 (x2 + 1) 1))))))))))))))
def fX5_point_10 (N : Nat) (σ : SC) (x1 : Int32) (z0 : Int32) : Option SC :=
  (bo (fX0_listeners N σ x1 z0) (fun v23 => (bo (fX2_setNext N σ x1 z0 v23) (fun σ26 => (some σ26)))))
def fX5_point (N : Nat) (σ : SC) (x1 : Int32) (x2 : Int32) : Option SC :=
  (if x2 = x1 then (fX5_point_10 N σ x1 (-1))
   else (fX5_point_10 N σ x1 x2))
def fX5_hill_71 (N : Nat) (k33 : SC → Int32 → Option (Int32 × SC)) (σ : SC) (x1 : Int32) (z0 : Int32) (z1 : Int32) : Option (Int32 × SC) :=
  (bo (fX5_point N σ z1 z0) (fun σ71 => (k33 σ71 (x1 + 1))))
def fX5_hill_33 (N : Nat) : Nat → SC → Int32 → Option (Int32 × SC)
  | 0, _, _ => none
  | n + 1, σ, x1 =>
  (if (c_people σ) ≤ x1 then (lb (sc_hasImage σ 0) (fun σ82 => (lb (sc_readings σ82 ((c_readings σ82) + 1)) (fun σ92 => (bo (fX1_clear N σ92) (fun σ99 => (some ((c_people σ99), σ99))))))))
       else (bo (fX1_nextWritten N σ x1) (fun v49 => (bo (fX0_has N σ v49) (fun v60 => (if v60 = 0 then (fX5_hill_71 N (fX5_hill_33 N n) σ x1 (-1) x1)
         else (fX5_hill_71 N (fX5_hill_33 N n) σ x1 v49 x1)))))))
def fX5_hill (N : Nat) (σ : SC) : Option (Int32 × SC) :=
  (bo (fX1_isHill N σ) (fun v4 => (if v4 = 0 then (some ((-103), σ))
   else (bo (fX0_read N σ) (fun σ21 => (bo (fX2_begin N σ21) (fun σ28 => (fX5_hill_33 N N σ28 0))))))))
def fX2_nextOf (N : Nat) (σ : SC) (x1 : Int32) : Option Int32 :=
  (if x1 < 0 then (some (-1))
   else (if 6 ≤ x1 then (some (-1))
     else (if inB x1 6 then (some (c_nexts σ x1.toNatClampNeg)) else none)))
def fX2_listenersOf (N : Nat) (σ : SC) (x1 : Int32) : Option Int32 :=
  (if x1 < 0 then (some 0)
   else (if 6 ≤ x1 then (some 0)
     else (if inB x1 6 then (some (c_lsts σ x1.toNatClampNeg)) else none)))
def fX5_isIn (N : Nat) (x0 : Int32) (x1 : Int32) : Option Int32 :=
  (if ((x1 >>> (x0 &&& 31)) &&& 1) = 0 then (some 0)
   else (some 1))
def fX2_tunnelsHeardBy_4 (N : Nat) : Nat → SC → Int32 → Int32 → Int32 → Option Int32
  | 0, _, _, _, _ => none
  | n + 1, σ, x1, x2, x3 =>
  (if 3 ≤ x3 then (some x2)
       else (if inB x3 3 then (bo (fX5_isIn N x1 (c_heard σ x3.toNatClampNeg)) (fun v16 => (if v16 = 0 then (fX2_tunnelsHeardBy_4 N n σ x1 x2 (x3 + 1))
         else (fX2_tunnelsHeardBy_4 N n σ x1 (x2 ||| (1 <<< (x3 &&& 31))) (x3 + 1))))) else none))
def fX2_tunnelsHeardBy (N : Nat) (σ : SC) (x1 : Int32) : Option Int32 :=
  (fX2_tunnelsHeardBy_4 N N σ x1 0 0)
def fX4_hearers_5 (N : Nat) : Nat → SC → Int32 → Int32 → Int32 → Int32 → Option Int32
  | 0, _, _, _, _, _ => none
  | n + 1, σ, x1, x2, x3, x4 =>
  (if (c_people σ) ≤ x4 then (some (x3 &&& (x1 ^^^ (-1))))
       else (bo (fX5_isIn N x4 x2) (fun v20 => (if v20 = 0 then (fX4_hearers_5 N n σ x1 x2 x3 (x4 + 1))
         else (bo (fX2_listenersOf N σ x4) (fun v33 => (fX4_hearers_5 N n σ x1 x2 (x3 ||| v33) (x4 + 1))))))))
def fX4_hearers (N : Nat) (σ : SC) (x1 : Int32) (x2 : Int32) : Option Int32 :=
  (fX4_hearers_5 N N σ x1 x2 0 0)
def fX0_yardsBy (N : Nat) (x0 : Int32) : Option Int32 :=
  (if x0 = 1 then (some (-1))
   else (if x0 = 2 then (some 1)
   else (if x0 = 3 then (some 2)
   else (if x0 = 4 then (some 2)
   else (some 1)))))
def fX0_length_9 (N : Nat) : Nat → SC → Int32 → Int32 → Int32 → Int32 → Option Int32
  | 0, _, _, _, _, _ => none
  | n + 1, σ, x1, x3, x4, x5 =>
  (if (c_people σ) ≤ x5 then (if x4 = 0 then (some (if (c_river σ) < (if x3 < 0 then 0 else x3) then (c_river σ) else (if x3 < 0 then 0 else x3)))
         else (some (if x3 < 0 then 0 else x3)))
       else (bo (fX5_isIn N x5 x1) (fun v21 => (if v21 = 0 then (fX0_length_9 N n σ x1 x3 x4 (x5 + 1))
         else (bo (fX0_kindOf N σ x5) (fun v31 => (bo (fX0_yardsBy N v31) (fun v34 => (bo (fX0_kindOf N σ x5) (fun v44 => (if v44 = 4 then (fX0_length_9 N n σ x1 (x3 + v34) (x4 ||| 1) (x5 + 1))
           else (fX0_length_9 N n σ x1 (x3 + v34) (x4 ||| 0) (x5 + 1)))))))))))))
def fX0_length (N : Nat) (σ : SC) (x1 : Int32) (x2 : Int32) : Option Int32 :=
  (fX0_length_9 N N σ x1 (-x2) 0 0)
def fX4_lengthInTheEnd_49 (N : Nat) (σ : SC) (x3 : Int32) (x4 : Int32) : Option Int32 :=
  (bo (fX0_length N σ x4 x3) (fun v56 => (some v56)))
def fX4_lengthInTheEnd_9 (N : Nat) : Nat → SC → Int32 → Int32 → Int32 → Int32 → Option Int32
  | 0, _, _, _, _, _ => none
  | n + 1, σ, x3, x4, x5, x6 =>
  (if (c_people σ) ≤ x6 then (fX4_lengthInTheEnd_49 N σ x3 x4)
       else (if x5 = 0 then (fX4_lengthInTheEnd_49 N σ x3 x4)
         else (bo (fX4_hearers N σ x4 x5) (fun v31 => (fX4_lengthInTheEnd_9 N n σ x3 (x4 ||| v31) v31 (x6 + 1))))))
def fX4_lengthInTheEnd (N : Nat) (σ : SC) (x1 : Int32) (x2 : Int32) (x3 : Int32) : Option Int32 :=
  (fX4_lengthInTheEnd_9 N N σ x3 x1 x2 0)
def fX4_ends (N : Nat) (σ : SC) (x1 : Int32) : Option Int32 :=
  (bo (fX4_lengthInTheEnd N σ x1 x1 0) (fun v4 => (some v4)))
def fX4_dayHeard_10 (N : Nat) : Nat → SC → Int32 → Int32 → Int32 → Int32 → Option Int32
  | 0, _, _, _, _, _ => none
  | n + 1, σ, x2, x3, x4, x5 =>
  (if (c_people σ) ≤ x5 then (some (-1))
       else (if x4 = 0 then (some (-1))
         else (bo (fX5_isIn N x2 x4) (fun v30 => (if v30 = 0 then (bo (fX4_hearers N σ x3 x4) (fun v43 => (fX4_dayHeard_10 N n σ x2 (x3 ||| v43) v43 (x5 + 1))))
           else (some x5))))))
def fX4_dayHeard (N : Nat) (σ : SC) (x1 : Int32) (x2 : Int32) : Option Int32 :=
  (fX4_dayHeard_10 N N σ x2 (1 <<< (x1 &&& 31)) (1 <<< (x1 &&& 31)) 0)
def fX4_lasts_4 (N : Nat) : Nat → SC → Int32 → Int32 → Int32 → Option Int32
  | 0, _, _, _, _ => none
  | n + 1, σ, x1, x2, x3 =>
  (if (c_people σ) ≤ x3 then (some x2)
       else (bo (fX4_dayHeard N σ x1 x3) (fun v19 => (fX4_lasts_4 N n σ x1 (if x2 < v19 then v19 else x2) (x3 + 1)))))
def fX4_lasts (N : Nat) (σ : SC) (x1 : Int32) : Option Int32 :=
  (fX4_lasts_4 N N σ x1 0 0)
def fX5_person (N : Nat) (σ : SC) (x1 : Int32) (x2 : Int32) : Option Int32 :=
  (bo (fX0_has N σ x1) (fun v5 => (if v5 = 0 then (some (-101))
   else (if x2 = 0 then (bo (fX0_kindOf N σ x1) (fun v57 => (some v57)))
     else (if x2 = 1 then (bo (fX2_nextOf N σ x1) (fun v66 => (some v66)))
     else (if x2 = 2 then (bo (fX2_listenersOf N σ x1) (fun v75 => (some v75)))
     else (if x2 = 3 then (bo (fX2_tunnelsHeardBy N σ x1) (fun v84 => (some v84)))
     else (if x2 = 4 then (bo (fX4_ends N σ (1 <<< (x1 &&& 31))) (fun v95 => (some v95)))
     else (if x2 = 5 then (bo (fX4_lasts N σ x1) (fun v104 => (some v104)))
     else (some (-102)))))))))))
def fX5_as (N : Nat) (σ : SC) (x1 : Int32) (x2 : Int32) : Option Int32 :=
  (bo (fX0_has N σ x1) (fun v5 => (if v5 = 0 then (some (-101))
   else (if x2 < 0 then (some (-102))
     else (if x2 < 5 then (bo (fX0_kindOf N σ x1) (fun v31 => (bo (fX5_isOfKind N v31 x2) (fun v35 => (if v35 = 0 then (some (-1))
         else (some x1))))))
       else (some (-102)))))))
def fX5_next_30 (N : Nat) (σ : SC) (x1 : Int32) (x2 : Int32) : Option (Int32 × SC) :=
  (bo (fX2_nextOf N σ x1) (fun v35 => (bo (fX5_point N σ x1 x2) (fun σ42 => (lb (sc_changes σ42 ((c_changes σ42) + 1)) (fun σ55 => (some (v35, σ55))))))))
def fX5_next (N : Nat) (σ : SC) (x1 : Int32) (x2 : Int32) : Option (Int32 × SC) :=
  (bo (fX0_has N σ x1) (fun v5 => (if v5 = 0 then (some ((-101), σ))
   else (if x2 = (-1) then (fX5_next_30 N σ x1 x2)
     else (bo (fX0_has N σ x2) (fun v21 => (if v21 = 0 then (some ((-101), σ))
       else (fX5_next_30 N σ x1 x2))))))))
def fX0_isThere (N : Nat) (σ : SC) : Option Int32 :=
  (if (c_people σ) ≤ 0 then (some 0)
   else (some 1))
def fX5_isTunnel (N : Nat) (σ : SC) (x1 : Int32) : Option Int32 :=
  (bo (fX0_isThere N σ) (fun v4 => (if v4 = 0 then (some 0)
   else (if x1 < 0 then (some 0)
     else (if 3 ≤ x1 then (some 0)
       else (some 1))))))
def fX5_lengthOf (N : Nat) (σ : SC) (x1 : Int32) : Option Int32 :=
  (if inB x1 3 then (if inB x1 3 then (bo (fX0_length N σ (c_heard σ x1.toNatClampNeg) (c_denied σ x1.toNatClampNeg)) (fun v22 => (some v22))) else none) else none)
def fX5_tell (N : Nat) (σ : SC) (x1 : Int32) (x2 : Int32) : Option (Int32 × SC) :=
  (bo (fX5_isTunnel N σ x1) (fun v2 => (if v2 = 0 then (some ((-101), σ))
   else (bo (fX0_has N σ x2) (fun v13 => (if v13 = 0 then (some ((-101), σ))
     else (if inB x1 3 then (if ((c_heard σ x1.toNatClampNeg) &&& (1 <<< (x2 &&& 31))) = 0 then (if inB x1 3 then (if inB x1 3 then (lb (sc_heard σ (upd (c_heard σ) x1.toNatClampNeg ((c_heard σ x1.toNatClampNeg) ||| (1 <<< (x2 &&& 31))))) (fun σ55 => (if inB x1 3 then (if inB x1 3 then (lb (sc_last σ55 (upd (c_last σ55) x1.toNatClampNeg ((c_last σ55 x1.toNatClampNeg) ||| (1 <<< (x2 &&& 31))))) (fun σ68 => (bo (fX5_lengthOf N σ68 x1) (fun v71 => (some (v71, σ68)))))) else none) else none))) else none) else none)
       else (some ((-103), σ))) else none)))))))
def fJ6_bitCount_0f7a4 (N : Nat) (x0 : Int32) : Option Int32 :=
  (lb (x0 - (((x0.toUInt32 >>> ((1 : Int32).toUInt32 &&& Int32.toUInt32 31)).toInt32) &&& 1431655765)) (fun y9 => (lb ((y9 &&& 858993459) + (((y9.toUInt32 >>> ((2 : Int32).toUInt32 &&& Int32.toUInt32 31)).toInt32) &&& 858993459)) (fun y23 => (lb ((y23 + ((y23.toUInt32 >>> ((4 : Int32).toUInt32 &&& Int32.toUInt32 31)).toInt32)) &&& 252645135) (fun y33 => (lb (y33 + ((y33.toUInt32 >>> ((8 : Int32).toUInt32 &&& Int32.toUInt32 31)).toInt32)) (fun y40 => (lb (y40 + ((y40.toUInt32 >>> ((16 : Int32).toUInt32 &&& Int32.toUInt32 31)).toInt32)) (fun y47 => (some (y47 &&& 63))))))))))))
def fX5_day_45 (N : Nat) : Nat → SC → Int32 → Int32 → Option (Int32 × SC)
  | 0, _, _, _ => none
  | n + 1, σ, x1, x2 =>
  (if 3 ≤ x2 then (some (x1, σ))
       else (if inB x2 3 then (if inB x2 3 then (bo (fX4_hearers N σ (c_heard σ x2.toNatClampNeg) (c_last σ x2.toNatClampNeg)) (fun v80 => (if inB x2 3 then (lb (sc_last σ (upd (c_last σ) x2.toNatClampNeg v80)) (fun σ83 => (if inB x2 3 then (if inB x2 3 then (if inB x2 3 then (lb (sc_heard σ83 (upd (c_heard σ83) x2.toNatClampNeg ((c_heard σ83 x2.toNatClampNeg) ||| (c_last σ83 x2.toNatClampNeg)))) (fun σ104 => (if inB x2 3 then (bo (fJ6_bitCount_0f7a4 N (c_last σ104 x2.toNatClampNeg)) (fun v115 => (fX5_day_45 N n σ104 (x1 + v115) (x2 + 1)))) else none))) else none) else none) else none))) else none))) else none) else none))
def fX5_day (N : Nat) (σ : SC) : Option (Int32 × SC) :=
  (bo (fX0_isThere N σ) (fun v4 => (if v4 = 0 then (some ((-103), σ))
   else (if (c_days σ) < 99 then (lb (sc_days σ ((c_days σ) + 1)) (fun σ38 => (fX5_day_45 N N σ38 0 0)))
     else (some ((-104), σ))))))
def fX5_deny (N : Nat) (σ : SC) (x1 : Int32) : Option (Int32 × SC) :=
  (bo (fX5_isTunnel N σ x1) (fun v2 => (if v2 = 0 then (some ((-101), σ))
   else (if inB x1 3 then (if (c_denied σ x1.toNatClampNeg) < 9 then (if inB x1 3 then (if inB x1 3 then (lb (sc_denied σ (upd (c_denied σ) x1.toNatClampNeg ((c_denied σ x1.toNatClampNeg) + 1))) (fun σ40 => (bo (fX5_lengthOf N σ40 x1) (fun v43 => (some (v43, σ40)))))) else none) else none)
     else (some ((-104), σ))) else none))))
def fX5_tunnel (N : Nat) (σ : SC) (x1 : Int32) (x2 : Int32) : Option Int32 :=
  (bo (fX5_isTunnel N σ x1) (fun v2 => (if v2 = 0 then (some (-101))
   else (if x2 = 0 then (bo (fX5_lengthOf N σ x1) (fun v50 => (some v50)))
     else (if x2 = 1 then (if inB x1 3 then (some (c_heard σ x1.toNatClampNeg)) else none)
     else (if x2 = 2 then (if inB x1 3 then (some (c_last σ x1.toNatClampNeg)) else none)
     else (if x2 = 3 then (if inB x1 3 then (some (c_denied σ x1.toNatClampNeg)) else none)
     else (if x2 = 4 then (if inB x1 3 then (if inB x1 3 then (if inB x1 3 then (bo (fX4_lengthInTheEnd N σ (c_heard σ x1.toNatClampNeg) (c_last σ x1.toNatClampNeg) (c_denied σ x1.toNatClampNeg)) (fun v115 => (some v115))) else none) else none) else none)
     else (some (-102))))))))))
def fX5_fewestToTell_15 (N : Nat) : Nat → SC → Int32 → Int32 → Int32 → Int32 → Option Int32
  | 0, _, _, _, _, _ => none
  | n + 1, σ, x1, x2, x3, x4 =>
  (if (1 <<< ((c_people σ) &&& 31)) ≤ x4 then (some x2)
       else (bo (fJ6_bitCount_0f7a4 N x4) (fun v31 => (if x3 ≤ v31 then (fX5_fewestToTell_15 N n σ x1 x2 x3 (x4 + 1))
         else (bo (fX4_ends N σ x4) (fun v44 => (if v44 = x1 then (bo (fJ6_bitCount_0f7a4 N x4) (fun v56 => (fX5_fewestToTell_15 N n σ x1 x4 v56 (x4 + 1))))
           else (fX5_fewestToTell_15 N n σ x1 x2 x3 (x4 + 1)))))))))
def fX5_fewestToTell (N : Nat) (σ : SC) (x1 : Int32) : Option Int32 :=
  (fX5_fewestToTell_15 N N σ x1 0 ((c_people σ) + 1) 1)
def fX5_aim (N : Nat) (σ : SC) (x1 : Int32) (x2 : Int32) : Option Int32 :=
  (if x1 < 1 then (some (-102))
   else (if 12 < x1 then (some (-102))
     else (if x2 < 0 then (some (-102))
       else (if x2 < 2 then (bo (fX0_isThere N σ) (fun v27 => (if v27 = 0 then (some (-103))
           else (bo (fX5_fewestToTell N σ x1) (fun v38 => (if v38 = 0 then (some (-1))
             else (if x2 = 0 then (bo (fJ6_bitCount_0f7a4 N v38) (fun v53 => (some v53)))
               else (some v38))))))))
         else (some (-102))))))
def fX2_note (N : Nat) (σ : SC) (x1 : Int32) (x2 : Int32) : Option (Int32 × SC) :=
  (if (c_asked σ) < 0 then (some (0, σ))
   else (if (c_asked σ) < 8 then (if inB (c_asked σ) 8 then (lb (sc_whom σ (upd (c_whom σ) (c_asked σ).toNatClampNeg x1)) (fun σ27 => (if inB (c_asked σ27) 8 then (lb (sc_wday σ27 (upd (c_wday σ27) (c_asked σ27).toNatClampNeg x2)) (fun σ37 => (lb (sc_asked σ37 ((c_asked σ37) + 1)) (fun σ45 => (some (1, σ45)))))) else none))) else none)
     else (some (0, σ))))
def fX5_heard_32 (N : Nat) (σ : SC) (x1 : Int32) (x2 : Int32) : Option (Int32 × SC) :=
  (bd (fX2_note N σ x1 x2) (fun v38 σ38 => (if v38 = 0 then (some ((-104), σ38))
     else (some ((c_asked σ38), σ38)))))
def fX5_heard (N : Nat) (σ : SC) (x1 : Int32) (x2 : Int32) : Option (Int32 × SC) :=
  (bo (fX0_has N σ x1) (fun v5 => (if v5 = 0 then (some ((-101), σ))
   else (if x2 = (-1) then (fX5_heard_32 N σ x1 x2)
     else (if x2 < 0 then (some ((-102), σ))
       else (if x2 ≤ 9 then (fX5_heard_32 N σ x1 x2)
         else (some ((-102), σ))))))))
def fX5_forget (N : Nat) (σ : SC) : Option (Int32 × SC) :=
  (lb (sc_asked σ 0) (fun σ13 => (some ((c_asked σ), σ13))))
def fX3_agrees_2 (N : Nat) : Nat → SC → Int32 → Int32 → Option Int32
  | 0, _, _, _ => none
  | n + 1, σ, x1, x2 =>
  (if (c_asked σ) ≤ x2 then (some 1)
       else (if 8 ≤ x2 then (some 1)
         else (if inB x2 8 then (bo (fX4_dayHeard N σ x1 (c_whom σ x2.toNatClampNeg)) (fun v33 => (if inB x2 8 then (if v33 = (c_wday σ x2.toNatClampNeg) then (fX3_agrees_2 N n σ x1 (x2 + 1))
           else (some 0)) else none))) else none)))
def fX3_agrees (N : Nat) (σ : SC) (x1 : Int32) : Option Int32 :=
  (fX3_agrees_2 N N σ x1 0)
def fX3_beginners_4 (N : Nat) : Nat → SC → Int32 → Int32 → Option Int32
  | 0, _, _, _ => none
  | n + 1, σ, x1, x2 =>
  (if (c_people σ) ≤ x2 then (some x1)
       else (bo (fX3_agrees N σ x2) (fun v17 => (if v17 = 0 then (fX3_beginners_4 N n σ x1 (x2 + 1))
         else (fX3_beginners_4 N n σ (x1 ||| (1 <<< (x2 &&& 31))) (x2 + 1))))))
def fX3_beginners (N : Nat) (σ : SC) : Option Int32 :=
  (fX3_beginners_4 N N σ 0 0)
def fX5_began (N : Nat) (σ : SC) : Option Int32 :=
  (bo (fX0_isThere N σ) (fun v4 => (if v4 = 0 then (some (-103))
   else (bo (fX3_beginners N σ) (fun v14 => (some v14))))))
def fX3_leftAtWorst_29 (N : Nat) : Nat → SC → Int32 → Int32 → Int32 → Int32 → Option (Int32 × SC)
  | 0, _, _, _, _, _ => none
  | n + 1, σ, x1, x2, x3, x4 =>
  (if (c_people σ) ≤ x4 then (some (x3, σ))
       else (bo (fX4_dayHeard N σ x4 x1) (fun v48 => (bo (fX5_isIn N x4 x2) (fun v58 => (if v58 = 0 then (fX3_leftAtWorst_29 N n σ x1 x2 x3 (x4 + 1))
         else (if (v48 + 1) < 0 then (fX3_leftAtWorst_29 N n σ x1 x2 x3 (x4 + 1))
           else (if 7 ≤ (v48 + 1) then (fX3_leftAtWorst_29 N n σ x1 x2 x3 (x4 + 1))
             else (if inB (v48 + 1) 7 then (if inB (v48 + 1) 7 then (lb (sc_left σ (upd (c_left σ) (v48 + 1).toNatClampNeg ((c_left σ (v48 + 1).toNatClampNeg) + 1))) (fun σ89 => (if inB (v48 + 1) 7 then (lb (if x3 < (c_left σ89 (v48 + 1).toNatClampNeg) then (c_left σ89 (v48 + 1).toNatClampNeg) else x3) (fun y101 => (fX3_leftAtWorst_29 N n σ89 x1 x2 y101 (x4 + 1)))) else none))) else none) else none)))))))))
def fX3_leftAtWorst_2 (N : Nat) : Nat → SC → Int32 → Int32 → Int32 → Option (Int32 × SC)
  | 0, _, _, _, _ => none
  | n + 1, σ, x1, x2, x3 =>
  (if 7 ≤ x3 then (fX3_leftAtWorst_29 N N σ x1 x2 0 0)
       else (if inB x3 7 then (lb (sc_left σ (upd (c_left σ) x3.toNatClampNeg 0)) (fun σ17 => (fX3_leftAtWorst_2 N n σ17 x1 x2 (x3 + 1)))) else none))
def fX3_leftAtWorst (N : Nat) (σ : SC) (x1 : Int32) (x2 : Int32) : Option (Int32 × SC) :=
  (fX3_leftAtWorst_2 N N σ x1 x2 0)
def fX3_bestToAsk_21 (N : Nat) : Nat → SC → Int32 → Int32 → Int32 → Int32 → Option (Int32 × SC)
  | 0, _, _, _, _, _ => none
  | n + 1, σ, x1, x2, x3, x4 =>
  (if (c_people σ) ≤ x4 then (some (x2, σ))
       else (bd (fX3_leftAtWorst N σ x4 x1) (fun v37 σ37 => (if x3 ≤ v37 then (fX3_bestToAsk_21 N n σ37 x1 x2 x3 (x4 + 1))
         else (fX3_bestToAsk_21 N n σ37 x1 x4 v37 (x4 + 1))))))
def fX3_bestToAsk (N : Nat) (σ : SC) (x1 : Int32) : Option (Int32 × SC) :=
  (if x1 = 0 then (some ((-1), σ))
   else (fX3_bestToAsk_21 N N σ x1 (-1) ((c_people σ) + 1) 0))
def fX5_ask (N : Nat) (σ : SC) : Option (Int32 × SC) :=
  (bo (fX0_isThere N σ) (fun v4 => (if v4 = 0 then (some ((-103), σ))
   else (bo (fX3_beginners N σ) (fun v18 => (bd (fX3_bestToAsk N σ v18) (fun v21 σ21 => (some (v21, σ21)))))))))
def fX5_seedBehind (N : Nat) (x0 : Int32) : Option Int32 :=
  (some (((1103515245 * x0) + 12345) &&& 2147483647))
def fX5_markets_57 (N : Nat) : Nat → SC → Int32 → Int32 → Int32 → Int32 → Int32 → Int32 → Int32 → Option Int32
  | 0, _, _, _, _, _, _, _, _ => none
  | n + 1, σ, x1, x3, x4, x5, x6, x7, x8 =>
  (if x1 ≤ x8 then (if x3 = 0 then (some x6)
         else (if x3 = 1 then (some x7)
         else (some x5)))
       else (bo (fX5_seedBehind N x5) (fun v65 => (if ¬ x4 = 0 then (bo (fX4_ends N σ (1 <<< (((v65 / 65536) - (v65 / 65536) / x4 * x4) &&& 31))) (fun v84 => (fX5_markets_57 N n σ x1 x3 x4 v65 (x6 + v84) (if x7 < v84 then v84 else x7) (x8 + 1)))) else none))))
def fX5_markets (N : Nat) (σ : SC) (x1 : Int32) (x2 : Int32) (x3 : Int32) : Option Int32 :=
  (if x1 < 1 then (some (-102))
   else (if 60 < x1 then (some (-102))
     else (if x2 < 0 then (some (-102))
       else (if x3 < 0 then (some (-102))
         else (if x3 < 3 then (if 1 ≤ (c_people σ) then (fX5_markets_57 N N σ x1 x3 (c_people σ) x2 0 0 0)
             else (some (-103)))
           else (some (-102)))))))
def fX2_copy_13_5 (N : Nat) (σ : SC) : Option SC :=
  (lb (sc_knexts σ (va_cpy (c_nexts σ) (c_knexts σ) (0 : Int32).toNatClampNeg (0 : Int32).toNatClampNeg (6 : Int32).toNatClampNeg)) (fun σ12 => (lb (sc_klsts σ12 (va_cpy (c_lsts σ12) (c_klsts σ12) (0 : Int32).toNatClampNeg (0 : Int32).toNatClampNeg (6 : Int32).toNatClampNeg)) (fun σ27 => (lb (sc_kheard σ27 (va_cpy (c_heard σ27) (c_kheard σ27) (0 : Int32).toNatClampNeg (0 : Int32).toNatClampNeg (3 : Int32).toNatClampNeg)) (fun σ41 => (lb (sc_klast σ41 (va_cpy (c_last σ41) (c_klast σ41) (0 : Int32).toNatClampNeg (0 : Int32).toNatClampNeg (3 : Int32).toNatClampNeg)) (fun σ55 => (lb (sc_kdenied σ55 (va_cpy (c_denied σ55) (c_kdenied σ55) (0 : Int32).toNatClampNeg (0 : Int32).toNatClampNeg (3 : Int32).toNatClampNeg)) (fun σ69 => (lb (sc_kwhom σ69 (va_cpy (c_whom σ69) (c_kwhom σ69) (0 : Int32).toNatClampNeg (0 : Int32).toNatClampNeg (8 : Int32).toNatClampNeg)) (fun σ84 => (lb (sc_kwday σ84 (va_cpy (c_wday σ84) (c_kwday σ84) (0 : Int32).toNatClampNeg (0 : Int32).toNatClampNeg (8 : Int32).toNatClampNeg)) (fun σ99 => (lb (sc_kasked σ99 (c_asked σ99)) (fun σ107 => (lb (sc_kdays σ107 (c_days σ107)) (fun σ115 => (lb (sc_kchanges σ115 (c_changes σ115)) (fun σ123 => (some σ123)))))))))))))))))))))
def fX2_copy_5_13 (N : Nat) (σ : SC) : Option SC :=
  (lb (sc_nexts σ (va_cpy (c_knexts σ) (c_nexts σ) (0 : Int32).toNatClampNeg (0 : Int32).toNatClampNeg (6 : Int32).toNatClampNeg)) (fun σ12 => (lb (sc_lsts σ12 (va_cpy (c_klsts σ12) (c_lsts σ12) (0 : Int32).toNatClampNeg (0 : Int32).toNatClampNeg (6 : Int32).toNatClampNeg)) (fun σ27 => (lb (sc_heard σ27 (va_cpy (c_kheard σ27) (c_heard σ27) (0 : Int32).toNatClampNeg (0 : Int32).toNatClampNeg (3 : Int32).toNatClampNeg)) (fun σ41 => (lb (sc_last σ41 (va_cpy (c_klast σ41) (c_last σ41) (0 : Int32).toNatClampNeg (0 : Int32).toNatClampNeg (3 : Int32).toNatClampNeg)) (fun σ55 => (lb (sc_denied σ55 (va_cpy (c_kdenied σ55) (c_denied σ55) (0 : Int32).toNatClampNeg (0 : Int32).toNatClampNeg (3 : Int32).toNatClampNeg)) (fun σ69 => (lb (sc_whom σ69 (va_cpy (c_kwhom σ69) (c_whom σ69) (0 : Int32).toNatClampNeg (0 : Int32).toNatClampNeg (8 : Int32).toNatClampNeg)) (fun σ84 => (lb (sc_wday σ84 (va_cpy (c_kwday σ84) (c_wday σ84) (0 : Int32).toNatClampNeg (0 : Int32).toNatClampNeg (8 : Int32).toNatClampNeg)) (fun σ99 => (lb (sc_asked σ99 (c_kasked σ99)) (fun σ107 => (lb (sc_days σ107 (c_kdays σ107)) (fun σ115 => (lb (sc_changes σ115 (c_kchanges σ115)) (fun σ123 => (some σ123)))))))))))))))))))))
def fX5_image (N : Nat) (σ : SC) : Option (Int32 × SC) :=
  (bo (fX0_isThere N σ) (fun v4 => (if v4 = 0 then (some ((-103), σ))
   else (bo (fX2_copy_13_5 N σ) (fun σ21 => (lb (sc_hasImage σ21 1) (fun σ26 => (some ((c_kdays σ26), σ26)))))))))
def fX5_restore (N : Nat) (σ : SC) : Option (Int32 × SC) :=
  (if (c_hasImage σ) = 0 then (some ((-103), σ))
   else (bo (fX2_copy_5_13 N σ) (fun σ18 => (some ((c_days σ18), σ18)))))
def fX5_lengthOfAll_4 (N : Nat) : Nat → SC → Int32 → Int32 → Option Int32
  | 0, _, _, _ => none
  | n + 1, σ, x1, x2 =>
  (if 3 ≤ x2 then (some x1)
       else (bo (fX5_lengthOf N σ x2) (fun v12 => (fX5_lengthOfAll_4 N n σ (x1 + v12) (x2 + 1)))))
def fX5_lengthOfAll (N : Nat) (σ : SC) : Option Int32 :=
  (fX5_lengthOfAll_4 N N σ 0 0)
def fX2_hearings_4 (N : Nat) : Nat → SC → Int32 → Int32 → Option Int32
  | 0, _, _, _ => none
  | n + 1, σ, x1, x2 =>
  (if 3 ≤ x2 then (some x1)
       else (if inB x2 3 then (bo (fJ6_bitCount_0f7a4 N (c_heard σ x2.toNatClampNeg)) (fun v16 => (fX2_hearings_4 N n σ (x1 + v16) (x2 + 1)))) else none))
def fX2_hearings (N : Nat) (σ : SC) : Option Int32 :=
  (fX2_hearings_4 N N σ 0 0)
def fX5_count (N : Nat) (σ : SC) (x1 : Int32) : Option Int32 :=
  (if x1 = 0 then (some (c_people σ))
   else (if x1 = 1 then (some (c_river σ))
   else (if x1 = 2 then (some (c_days σ))
   else (if x1 = 3 then (bo (fX5_lengthOfAll N σ) (fun v77 => (some v77)))
   else (if x1 = 4 then (bo (fX2_hearings N σ) (fun v85 => (some v85)))
   else (if x1 = 5 then (some (c_changes σ))
   else (if x1 = 6 then (some (c_asked σ))
   else (if x1 = 7 then (some (c_plen σ))
   else (if x1 = 8 then (some (c_readings σ))
   else (some (-102)))))))))))
def fX5_mixed (N : Nat) (x0 : Int64) (x2 : Int64) : Option Int64 :=
  (some ((31 * x0) + x2))
def fX5_withPeople_20 (N : Nat) (k5 : SC → Int64 → Int32 → Option Int64) : Nat → SC → Int64 → Int32 → Int32 → Option Int64
  | 0, _, _, _, _ => none
  | n + 1, σ, x3, x5, x6 =>
  (if 6 ≤ x6 then (k5 σ x3 (x5 + 1))
           else (bo (fX5_person N σ x5 x6) (fun v33 => (bo (fX5_mixed N x3 v33.toInt64) (fun v37 => (fX5_withPeople_20 N k5 n σ v37 x5 (x6 + 1)))))))
def fX5_withPeople_5 (N : Nat) : Nat → SC → Int64 → Int32 → Option Int64
  | 0, _, _, _ => none
  | n + 1, σ, x3, x5 =>
  (if (c_people σ) ≤ x5 then (some x3)
       else (fX5_withPeople_20 N (fX5_withPeople_5 N n) N σ x3 x5 0))
def fX5_withPeople (N : Nat) (σ : SC) (x1 : Int64) : Option Int64 :=
  (fX5_withPeople_5 N N σ x1 0)
def fX5_withTunnels_14 (N : Nat) (k5 : SC → Int64 → Int32 → Option Int64) : Nat → SC → Int64 → Int32 → Int32 → Option Int64
  | 0, _, _, _, _ => none
  | n + 1, σ, x3, x5, x6 =>
  (if 5 ≤ x6 then (k5 σ x3 (x5 + 1))
           else (bo (fX5_tunnel N σ x5 x6) (fun v26 => (bo (fX5_mixed N x3 v26.toInt64) (fun v30 => (fX5_withTunnels_14 N k5 n σ v30 x5 (x6 + 1)))))))
def fX5_withTunnels_5 (N : Nat) : Nat → SC → Int64 → Int32 → Option Int64
  | 0, _, _, _ => none
  | n + 1, σ, x3, x5 =>
  (if 3 ≤ x5 then (some x3)
       else (fX5_withTunnels_14 N (fX5_withTunnels_5 N n) N σ x3 x5 0))
def fX5_withTunnels (N : Nat) (σ : SC) (x1 : Int64) : Option Int64 :=
  (fX5_withTunnels_5 N N σ x1 0)
def fX5_withLetters_5 (N : Nat) : Nat → SC → Int64 → Int32 → Option Int64
  | 0, _, _, _ => none
  | n + 1, σ, x3, x5 =>
  (if (c_plen σ) ≤ x5 then (some x3)
       else (bo (fX1_codeAt N σ x5) (fun v24 => (bo (fX5_mixed N x3 v24.toInt64) (fun v28 => (fX5_withLetters_5 N n σ v28 (x5 + 1)))))))
def fX5_withLetters (N : Nat) (σ : SC) (x1 : Int64) : Option Int64 :=
  (fX5_withLetters_5 N N σ x1 0)
def fX5_digest_104 (N : Nat) : Nat → SC → Int64 → Int32 → Option (Int64 × SC)
  | 0, _, _, _ => none
  | n + 1, σ, x1, x3 =>
  (if 9 ≤ x3 then (some (x1, σ))
       else (bo (fX5_count N σ x3) (fun v113 => (bo (fX5_mixed N x1 v113.toInt64) (fun v117 => (fX5_digest_104 N n σ v117 (x3 + 1)))))))
def fX5_digest_96 (N : Nat) (σ : SC) (x1 : Int64) : Option (Int64 × SC) :=
  (bo (fX5_withLetters N σ x1) (fun v98 => (fX5_digest_104 N N σ v98 0)))
def fX5_digest (N : Nat) (σ : SC) : Option (Int64 × SC) :=
  (bo (fX0_isThere N σ) (fun v8 => (if v8 = 0 then (fX5_digest_96 N σ 1069)
   else (bo (fX5_withPeople N σ 1069) (fun v16 => (bo (fX5_withTunnels N σ v16) (fun v22 => (bo (fX5_aim N σ 3 0) (fun v30 => (bo (fX5_mixed N v22 v30.toInt64) (fun v34 => (bo (fX5_aim N σ 3 1) (fun v42 => (bo (fX5_mixed N v34 v42.toInt64) (fun v46 => (bo (fX5_aim N σ 7 0) (fun v55 => (bo (fX5_mixed N v46 v55.toInt64) (fun v59 => (bo (fX5_aim N σ 7 1) (fun v68 => (bo (fX5_mixed N v59 v68.toInt64) (fun v72 => (bo (fX5_began N σ) (fun v78 => (bo (fX5_mixed N v72 v78.toInt64) (fun v82 => (bd (fX5_ask N σ) (fun v88 σ88 => (bo (fX5_mixed N v82 v88.toInt64) (fun v92 => (fX5_digest_96 N σ88 v92))))))))))))))))))))))))))))))))
