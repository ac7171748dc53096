section
-- ===== PART A: goes FIRST, ahead of the names: the tables' words, and 'selects' of the private methods out of them =====
/-- a private method of a class that the tables say can be made, by its rows of tables_1 -/
def lw_okq (q : MethodName × Nat) : Prop := (q.1.cls ≠ "java/lang/invoke/MethodHandle" ∧ q.1.cls ≠ "java/lang/invoke/VarHandle") ∧ Cond.instantiable q.1.cls q.2 ∈ tables_1 ∧ Cond.privateMethod q.1 ∈ tables_1 ∧ Cond.instanceMethod q.1 ∈ tables_1
theorem lw_p0 : lw_okq (⟨"DugBySaid$Page", "fits", "(I)Z"⟩, 2) := ⟨⟨by decide +kernel, by decide +kernel⟩, List.mem_of_getElem? (i := 25) (by decide +kernel), List.mem_of_getElem? (i := 187) (by decide +kernel), List.mem_of_getElem? (i := 188) (by decide +kernel)⟩
theorem lw_p1 : lw_okq (⟨"DugBySaid", "point", "(II)V"⟩, 8) := ⟨⟨by decide +kernel, by decide +kernel⟩, List.mem_of_getElem? (i := 17) (by decide +kernel), List.mem_of_getElem? (i := 328) (by decide +kernel), List.mem_of_getElem? (i := 329) (by decide +kernel)⟩
theorem lw_p2 : lw_okq (⟨"DugBySaid", "isTunnel", "(I)Z"⟩, 8) := ⟨⟨by decide +kernel, by decide +kernel⟩, List.mem_of_getElem? (i := 17) (by decide +kernel), List.mem_of_getElem? (i := 410) (by decide +kernel), List.mem_of_getElem? (i := 411) (by decide +kernel)⟩
theorem lw_p3 : lw_okq (⟨"DugBySaid", "lengthOf", "(I)I"⟩, 8) := ⟨⟨by decide +kernel, by decide +kernel⟩, List.mem_of_getElem? (i := 17) (by decide +kernel), List.mem_of_getElem? (i := 418) (by decide +kernel), List.mem_of_getElem? (i := 419) (by decide +kernel)⟩
theorem lw_p4 : lw_okq (⟨"DugBySaid", "fewestToTell", "(I)I"⟩, 8) := ⟨⟨by decide +kernel, by decide +kernel⟩, List.mem_of_getElem? (i := 17) (by decide +kernel), List.mem_of_getElem? (i := 447) (by decide +kernel), List.mem_of_getElem? (i := 448) (by decide +kernel)⟩
theorem lw_p5 : lw_okq (⟨"DugBySaid$Riddle", "agrees", "(I)Z"⟩, 4) := ⟨⟨by decide +kernel, by decide +kernel⟩, List.mem_of_getElem? (i := 119) (by decide +kernel), List.mem_of_getElem? (i := 471) (by decide +kernel), List.mem_of_getElem? (i := 472) (by decide +kernel)⟩
theorem lw_p6 : lw_okq (⟨"DugBySaid$Riddle", "leftAtWorst", "(II)I"⟩, 4) := ⟨⟨by decide +kernel, by decide +kernel⟩, List.mem_of_getElem? (i := 119) (by decide +kernel), List.mem_of_getElem? (i := 484) (by decide +kernel), List.mem_of_getElem? (i := 485) (by decide +kernel)⟩
theorem lw_p7 : lw_okq (⟨"DugBySaid", "lengthOfAll", "()I"⟩, 8) := ⟨⟨by decide +kernel, by decide +kernel⟩, List.mem_of_getElem? (i := 17) (by decide +kernel), List.mem_of_getElem? (i := 520) (by decide +kernel), List.mem_of_getElem? (i := 521) (by decide +kernel)⟩
theorem lw_p8 : lw_okq (⟨"DugBySaid", "withPeople", "(J)J"⟩, 8) := ⟨⟨by decide +kernel, by decide +kernel⟩, List.mem_of_getElem? (i := 17) (by decide +kernel), List.mem_of_getElem? (i := 534) (by decide +kernel), List.mem_of_getElem? (i := 535) (by decide +kernel)⟩
theorem lw_p9 : lw_okq (⟨"DugBySaid", "withTunnels", "(J)J"⟩, 8) := ⟨⟨by decide +kernel, by decide +kernel⟩, List.mem_of_getElem? (i := 17) (by decide +kernel), List.mem_of_getElem? (i := 543) (by decide +kernel), List.mem_of_getElem? (i := 544) (by decide +kernel)⟩
theorem lw_p10 : lw_okq (⟨"DugBySaid", "withLetters", "(J)J"⟩, 8) := ⟨⟨by decide +kernel, by decide +kernel⟩, List.mem_of_getElem? (i := 17) (by decide +kernel), List.mem_of_getElem? (i := 551) (by decide +kernel), List.mem_of_getElem? (i := 552) (by decide +kernel)⟩
theorem lw_p11 : lw_okq (⟨"DugBySaidModel", "faultOf", "()I"⟩, 22) := ⟨⟨by decide +kernel, by decide +kernel⟩, List.mem_of_getElem? (i := 557) (by decide +kernel), List.mem_of_getElem? (i := 646) (by decide +kernel), List.mem_of_getElem? (i := 647) (by decide +kernel)⟩
theorem lw_p12 : lw_okq (⟨"DugBySaidModel", "isGood", "(I)Z"⟩, 22) := ⟨⟨by decide +kernel, by decide +kernel⟩, List.mem_of_getElem? (i := 557) (by decide +kernel), List.mem_of_getElem? (i := 650) (by decide +kernel), List.mem_of_getElem? (i := 651) (by decide +kernel)⟩
theorem lw_p13 : lw_okq (⟨"DugBySaidModel", "isPerson", "(I)Z"⟩, 22) := ⟨⟨by decide +kernel, by decide +kernel⟩, List.mem_of_getElem? (i := 557) (by decide +kernel), List.mem_of_getElem? (i := 668) (by decide +kernel), List.mem_of_getElem? (i := 669) (by decide +kernel)⟩
theorem lw_p14 : lw_okq (⟨"DugBySaidModel", "tellPerson", "(II)I"⟩, 22) := ⟨⟨by decide +kernel, by decide +kernel⟩, List.mem_of_getElem? (i := 557) (by decide +kernel), List.mem_of_getElem? (i := 672) (by decide +kernel), List.mem_of_getElem? (i := 673) (by decide +kernel)⟩
theorem lw_p15 : lw_okq (⟨"DugBySaidModel", "tellsOf", "(I)I"⟩, 22) := ⟨⟨by decide +kernel, by decide +kernel⟩, List.mem_of_getElem? (i := 557) (by decide +kernel), List.mem_of_getElem? (i := 676) (by decide +kernel), List.mem_of_getElem? (i := 677) (by decide +kernel)⟩
def lw_privs_1 : List (MethodName × Nat) := [(⟨"DugBySaid$Page", "fits", "(I)Z"⟩, 2), (⟨"DugBySaid", "point", "(II)V"⟩, 8), (⟨"DugBySaid", "isTunnel", "(I)Z"⟩, 8), (⟨"DugBySaid", "lengthOf", "(I)I"⟩, 8), (⟨"DugBySaid", "fewestToTell", "(I)I"⟩, 8), (⟨"DugBySaid$Riddle", "agrees", "(I)Z"⟩, 4), (⟨"DugBySaid$Riddle", "leftAtWorst", "(II)I"⟩, 4), (⟨"DugBySaid", "lengthOfAll", "()I"⟩, 8), (⟨"DugBySaid", "withPeople", "(J)J"⟩, 8), (⟨"DugBySaid", "withTunnels", "(J)J"⟩, 8), (⟨"DugBySaid", "withLetters", "(J)J"⟩, 8), (⟨"DugBySaidModel", "faultOf", "()I"⟩, 22), (⟨"DugBySaidModel", "isGood", "(I)Z"⟩, 22), (⟨"DugBySaidModel", "isPerson", "(I)Z"⟩, 22), (⟨"DugBySaidModel", "tellPerson", "(II)I"⟩, 22), (⟨"DugBySaidModel", "tellsOf", "(I)I"⟩, 22)]
theorem lw_r1 : ∀ q ∈ lw_privs_1, lw_okq q := List.forall_mem_cons.mpr ⟨lw_p0, List.forall_mem_cons.mpr ⟨lw_p1, List.forall_mem_cons.mpr ⟨lw_p2, List.forall_mem_cons.mpr ⟨lw_p3, List.forall_mem_cons.mpr ⟨lw_p4, List.forall_mem_cons.mpr ⟨lw_p5, List.forall_mem_cons.mpr ⟨lw_p6, List.forall_mem_cons.mpr ⟨lw_p7, List.forall_mem_cons.mpr ⟨lw_p8, List.forall_mem_cons.mpr ⟨lw_p9, List.forall_mem_cons.mpr ⟨lw_p10, List.forall_mem_cons.mpr ⟨lw_p11, List.forall_mem_cons.mpr ⟨lw_p12, List.forall_mem_cons.mpr ⟨lw_p13, List.forall_mem_cons.mpr ⟨lw_p14, List.forall_mem_cons.mpr ⟨lw_p15, fun _ h => absurd h List.not_mem_nil⟩⟩⟩⟩⟩⟩⟩⟩⟩⟩⟩⟩⟩⟩⟩⟩
theorem lw_p16 : lw_okq (⟨"DugBySaidModel", "tunnelsOf", "(I)I"⟩, 22) := ⟨⟨by decide +kernel, by decide +kernel⟩, List.mem_of_getElem? (i := 557) (by decide +kernel), List.mem_of_getElem? (i := 680) (by decide +kernel), List.mem_of_getElem? (i := 681) (by decide +kernel)⟩
theorem lw_p17 : lw_okq (⟨"DugBySaidModel", "endsOf", "(I)I"⟩, 22) := ⟨⟨by decide +kernel, by decide +kernel⟩, List.mem_of_getElem? (i := 557) (by decide +kernel), List.mem_of_getElem? (i := 684) (by decide +kernel), List.mem_of_getElem? (i := 685) (by decide +kernel)⟩
theorem lw_p18 : lw_okq (⟨"DugBySaidModel", "endBy", "(II)I"⟩, 22) := ⟨⟨by decide +kernel, by decide +kernel⟩, List.mem_of_getElem? (i := 557) (by decide +kernel), List.mem_of_getElem? (i := 688) (by decide +kernel), List.mem_of_getElem? (i := 689) (by decide +kernel)⟩
theorem lw_p19 : lw_okq (⟨"DugBySaidModel", "toldBy", "(I)I"⟩, 22) := ⟨⟨by decide +kernel, by decide +kernel⟩, List.mem_of_getElem? (i := 557) (by decide +kernel), List.mem_of_getElem? (i := 692) (by decide +kernel), List.mem_of_getElem? (i := 693) (by decide +kernel)⟩
theorem lw_p20 : lw_okq (⟨"DugBySaidModel", "lengthBy", "(II)I"⟩, 22) := ⟨⟨by decide +kernel, by decide +kernel⟩, List.mem_of_getElem? (i := 557) (by decide +kernel), List.mem_of_getElem? (i := 696) (by decide +kernel), List.mem_of_getElem? (i := 697) (by decide +kernel)⟩
theorem lw_p21 : lw_okq (⟨"DugBySaidModel", "lastsOf", "(I)I"⟩, 22) := ⟨⟨by decide +kernel, by decide +kernel⟩, List.mem_of_getElem? (i := 557) (by decide +kernel), List.mem_of_getElem? (i := 703) (by decide +kernel), List.mem_of_getElem? (i := 704) (by decide +kernel)⟩
theorem lw_p22 : lw_okq (⟨"DugBySaidModel", "dayOf", "(II)I"⟩, 22) := ⟨⟨by decide +kernel, by decide +kernel⟩, List.mem_of_getElem? (i := 557) (by decide +kernel), List.mem_of_getElem? (i := 707) (by decide +kernel), List.mem_of_getElem? (i := 708) (by decide +kernel)⟩
theorem lw_p23 : lw_okq (⟨"DugBySaidModel", "isTunnel", "(I)Z"⟩, 22) := ⟨⟨by decide +kernel, by decide +kernel⟩, List.mem_of_getElem? (i := 557) (by decide +kernel), List.mem_of_getElem? (i := 724) (by decide +kernel), List.mem_of_getElem? (i := 725) (by decide +kernel)⟩
theorem lw_p24 : lw_okq (⟨"DugBySaidModel", "lacks", "()Z"⟩, 22) := ⟨⟨by decide +kernel, by decide +kernel⟩, List.mem_of_getElem? (i := 557) (by decide +kernel), List.mem_of_getElem? (i := 728) (by decide +kernel), List.mem_of_getElem? (i := 729) (by decide +kernel)⟩
theorem lw_p25 : lw_okq (⟨"DugBySaidModel", "lengthOf", "(I)I"⟩, 22) := ⟨⟨by decide +kernel, by decide +kernel⟩, List.mem_of_getElem? (i := 557) (by decide +kernel), List.mem_of_getElem? (i := 733) (by decide +kernel), List.mem_of_getElem? (i := 734) (by decide +kernel)⟩
theorem lw_p26 : lw_okq (⟨"DugBySaidModel", "tellTunnel", "(II)I"⟩, 22) := ⟨⟨by decide +kernel, by decide +kernel⟩, List.mem_of_getElem? (i := 557) (by decide +kernel), List.mem_of_getElem? (i := 752) (by decide +kernel), List.mem_of_getElem? (i := 753) (by decide +kernel)⟩
theorem lw_p27 : lw_okq (⟨"DugBySaidModel", "aimOf", "(II)I"⟩, 22) := ⟨⟨by decide +kernel, by decide +kernel⟩, List.mem_of_getElem? (i := 557) (by decide +kernel), List.mem_of_getElem? (i := 762) (by decide +kernel), List.mem_of_getElem? (i := 763) (by decide +kernel)⟩
theorem lw_p28 : lw_okq (⟨"DugBySaidModel", "beganOf", "()I"⟩, 22) := ⟨⟨by decide +kernel, by decide +kernel⟩, List.mem_of_getElem? (i := 557) (by decide +kernel), List.mem_of_getElem? (i := 780) (by decide +kernel), List.mem_of_getElem? (i := 781) (by decide +kernel)⟩
theorem lw_p29 : lw_okq (⟨"DugBySaidModel", "askOf", "()I"⟩, 22) := ⟨⟨by decide +kernel, by decide +kernel⟩, List.mem_of_getElem? (i := 557) (by decide +kernel), List.mem_of_getElem? (i := 788) (by decide +kernel), List.mem_of_getElem? (i := 789) (by decide +kernel)⟩
theorem lw_p30 : lw_okq (⟨"DugBySaidModel", "draw", "(I)I"⟩, 22) := ⟨⟨by decide +kernel, by decide +kernel⟩, List.mem_of_getElem? (i := 557) (by decide +kernel), List.mem_of_getElem? (i := 797) (by decide +kernel), List.mem_of_getElem? (i := 798) (by decide +kernel)⟩
theorem lw_p31 : lw_okq (⟨"DugBySaidModel", "countOf", "(I)I"⟩, 22) := ⟨⟨by decide +kernel, by decide +kernel⟩, List.mem_of_getElem? (i := 557) (by decide +kernel), List.mem_of_getElem? (i := 820) (by decide +kernel), List.mem_of_getElem? (i := 821) (by decide +kernel)⟩
def lw_privs_2 : List (MethodName × Nat) := [(⟨"DugBySaidModel", "tunnelsOf", "(I)I"⟩, 22), (⟨"DugBySaidModel", "endsOf", "(I)I"⟩, 22), (⟨"DugBySaidModel", "endBy", "(II)I"⟩, 22), (⟨"DugBySaidModel", "toldBy", "(I)I"⟩, 22), (⟨"DugBySaidModel", "lengthBy", "(II)I"⟩, 22), (⟨"DugBySaidModel", "lastsOf", "(I)I"⟩, 22), (⟨"DugBySaidModel", "dayOf", "(II)I"⟩, 22), (⟨"DugBySaidModel", "isTunnel", "(I)Z"⟩, 22), (⟨"DugBySaidModel", "lacks", "()Z"⟩, 22), (⟨"DugBySaidModel", "lengthOf", "(I)I"⟩, 22), (⟨"DugBySaidModel", "tellTunnel", "(II)I"⟩, 22), (⟨"DugBySaidModel", "aimOf", "(II)I"⟩, 22), (⟨"DugBySaidModel", "beganOf", "()I"⟩, 22), (⟨"DugBySaidModel", "askOf", "()I"⟩, 22), (⟨"DugBySaidModel", "draw", "(I)I"⟩, 22), (⟨"DugBySaidModel", "countOf", "(I)I"⟩, 22)]
theorem lw_r2 : ∀ q ∈ lw_privs_2, lw_okq q := List.forall_mem_cons.mpr ⟨lw_p16, List.forall_mem_cons.mpr ⟨lw_p17, List.forall_mem_cons.mpr ⟨lw_p18, List.forall_mem_cons.mpr ⟨lw_p19, List.forall_mem_cons.mpr ⟨lw_p20, List.forall_mem_cons.mpr ⟨lw_p21, List.forall_mem_cons.mpr ⟨lw_p22, List.forall_mem_cons.mpr ⟨lw_p23, List.forall_mem_cons.mpr ⟨lw_p24, List.forall_mem_cons.mpr ⟨lw_p25, List.forall_mem_cons.mpr ⟨lw_p26, List.forall_mem_cons.mpr ⟨lw_p27, List.forall_mem_cons.mpr ⟨lw_p28, List.forall_mem_cons.mpr ⟨lw_p29, List.forall_mem_cons.mpr ⟨lw_p30, List.forall_mem_cons.mpr ⟨lw_p31, fun _ h => absurd h List.not_mem_nil⟩⟩⟩⟩⟩⟩⟩⟩⟩⟩⟩⟩⟩⟩⟩⟩
theorem lw_p32 : lw_okq (⟨"DugBySaidModel", "lengthAll", "()I"⟩, 22) := ⟨⟨by decide +kernel, by decide +kernel⟩, List.mem_of_getElem? (i := 557) (by decide +kernel), List.mem_of_getElem? (i := 824) (by decide +kernel), List.mem_of_getElem? (i := 825) (by decide +kernel)⟩
theorem lw_p33 : lw_okq (⟨"DugBySaidModel", "heardAll", "()I"⟩, 22) := ⟨⟨by decide +kernel, by decide +kernel⟩, List.mem_of_getElem? (i := 557) (by decide +kernel), List.mem_of_getElem? (i := 828) (by decide +kernel), List.mem_of_getElem? (i := 829) (by decide +kernel)⟩
theorem lw_p34 : lw_okq (⟨"DugBySaidModel", "say", "(J)V"⟩, 22) := ⟨⟨by decide +kernel, by decide +kernel⟩, List.mem_of_getElem? (i := 557) (by decide +kernel), List.mem_of_getElem? (i := 837) (by decide +kernel), List.mem_of_getElem? (i := 838) (by decide +kernel)⟩
theorem lw_p35 : lw_okq (⟨"DugBySaidModel", "sayHill", "()V"⟩, 22) := ⟨⟨by decide +kernel, by decide +kernel⟩, List.mem_of_getElem? (i := 557) (by decide +kernel), List.mem_of_getElem? (i := 842) (by decide +kernel), List.mem_of_getElem? (i := 843) (by decide +kernel)⟩
def lw_privs_3 : List (MethodName × Nat) := [(⟨"DugBySaidModel", "lengthAll", "()I"⟩, 22), (⟨"DugBySaidModel", "heardAll", "()I"⟩, 22), (⟨"DugBySaidModel", "say", "(J)V"⟩, 22), (⟨"DugBySaidModel", "sayHill", "()V"⟩, 22)]
theorem lw_r3 : ∀ q ∈ lw_privs_3, lw_okq q := List.forall_mem_cons.mpr ⟨lw_p32, List.forall_mem_cons.mpr ⟨lw_p33, List.forall_mem_cons.mpr ⟨lw_p34, List.forall_mem_cons.mpr ⟨lw_p35, fun _ h => absurd h List.not_mem_nil⟩⟩⟩⟩
def lw_privs : List (MethodName × Nat) := lw_privs_1 ++ (lw_privs_2 ++ (lw_privs_3))
def lw_tbl : List Cond := k2_sels lw_privs ++ tables_1
theorem lw_privs_ok : ∀ q ∈ lw_privs, lw_okq q := by
  show ∀ q ∈ lw_privs_1 ++ (lw_privs_2 ++ (lw_privs_3)), lw_okq q
  exact List.forall_mem_append.mpr ⟨lw_r1, List.forall_mem_append.mpr ⟨lw_r2, lw_r3⟩⟩
end
section
/-! ===== BEGIN words of one list among another's, by their places ===== -/
theorem goodIn_r {big : List Cond} (ws : List Cond) (ps : List Nat) (hp : ws = ps.filterMap (fun i => big[i]?)) (h : ws.all goodWord = true) : GoodIn big ws := by
  intro w hw
  have h1 := List.all_eq_true.mp h w hw
  rw [hp] at hw
  obtain ⟨i, -, hi⟩ := List.mem_filterMap.mp hw
  have hm : w ∈ big := by first | exact List.mem_of_getElem? hi | exact List.getElem?_mem hi
  exact ⟨hm, good_of_word h1⟩
theorem goodIn_app {big a b : List Cond} (ha : GoodIn big a) (hb : GoodIn big b) : GoodIn big (a ++ b) := fun w h => (List.mem_append.mp h).elim (ha w) (hb w)
theorem goodIn_ca {big a b : List Cond} {c : Cond} (ha : GoodIn big (c :: a)) (hb : GoodIn big b) : GoodIn big (c :: (a ++ b)) := fun w h => (List.mem_cons.mp h).elim (fun e => ha w (List.mem_cons.mpr (Or.inl e))) (fun h => (List.mem_append.mp h).elim (fun h => ha w (List.mem_cons.mpr (Or.inr h))) (hb w))
theorem goodIn_sub {big ws : List Cond} (hm : ∀ w ∈ ws, w ∈ big) (h : ws.all goodWord = true) : GoodIn big ws := fun w hw => ⟨hm w hw, good_of_word (List.all_eq_true.mp h w hw)⟩
/-! ===== END ===== -/

/-! ===== BEGIN printed: names, fields, word lists, decode rows ===== -/
def RX0 : String := "DugBySaid$Hill"
def TX0 : u_T := fun k => match k with
  | 0 => ("DugBySaid$Hill", "kinds", "[I", true)
  | 1 => ("DugBySaid$Hill", "people", "I", false)
  | _ => ("DugBySaid$Hill", "river", "I", false)
def tyX0 : Nat → FieldType := fun k => match k with
  | 0 => .array .int
  | 1 => .int
  | _ => .int
abbrev wsX00 : List Cond := u_ws RX0 TX0 3
theorem nmX0 : ∀ a, a < 3 → ∀ b, b < 3 → a ≠ b → (TX0 a).2.1 ≠ (TX0 b).2.1 := by decide +kernel
theorem tyX0_ok : ∀ k, k < 3 → parseFieldDescriptor (TX0 k).2.2.1 = some (tyX0 k) := by decide +kernel
abbrev cX0_init : ByteArray := prog_2_method_1_code
def yX0_init : MethodName := ⟨RX0, "<init>", "()V"⟩
abbrev cX0_read : ByteArray := prog_2_method_2_code
def yX0_read : MethodName := ⟨RX0, "read", "(LDugBySaid$Page;)V"⟩
abbrev cX0_isThere : ByteArray := prog_2_method_3_code
def yX0_isThere : MethodName := ⟨RX0, "isThere", "()Z"⟩
abbrev cX0_has : ByteArray := prog_2_method_4_code
def yX0_has : MethodName := ⟨RX0, "has", "(I)Z"⟩
abbrev cX0_kindOf : ByteArray := prog_2_method_5_code
def yX0_kindOf : MethodName := ⟨RX0, "kindOf", "(I)I"⟩
abbrev cX0_listeners : ByteArray := prog_2_method_6_code
def yX0_listeners : MethodName := ⟨RX0, "listeners", "(II)I"⟩
abbrev cX0_length : ByteArray := prog_2_method_7_code
def yX0_length : MethodName := ⟨RX0, "length", "(II)I"⟩
abbrev cX0_yardsBy : ByteArray := prog_2_method_8_code
def yX0_yardsBy : MethodName := ⟨RX0, "yardsBy", "(I)I"⟩
def RX1 : String := "DugBySaid$Page"
def TX1 : u_T := fun k => match k with
  | 0 => ("DugBySaid$Page", "codes", "[I", true)
  | _ => ("DugBySaid$Page", "length", "I", false)
def tyX1 : Nat → FieldType := fun k => match k with
  | 0 => .array .int
  | _ => .int
abbrev wsX10 : List Cond := u_ws RX1 TX1 2
theorem nmX1 : ∀ a, a < 2 → ∀ b, b < 2 → a ≠ b → (TX1 a).2.1 ≠ (TX1 b).2.1 := by decide +kernel
theorem tyX1_ok : ∀ k, k < 2 → parseFieldDescriptor (TX1 k).2.2.1 = some (tyX1 k) := by decide +kernel
abbrev cX1_init : ByteArray := prog_3_method_1_code
def yX1_init : MethodName := ⟨RX1, "<init>", "()V"⟩
abbrev cX1_put : ByteArray := prog_3_method_2_code
def yX1_put : MethodName := ⟨RX1, "put", "(I)Z"⟩
abbrev cX1_clear : ByteArray := prog_3_method_3_code
def yX1_clear : MethodName := ⟨RX1, "clear", "()V"⟩
abbrev cX1_firstFault : ByteArray := prog_3_method_4_code
def yX1_firstFault : MethodName := ⟨RX1, "firstFault", "()I"⟩
abbrev cX1_isHill : ByteArray := prog_3_method_5_code
def yX1_isHill : MethodName := ⟨RX1, "isHill", "()Z"⟩
abbrev cX1_peopleWritten : ByteArray := prog_3_method_6_code
def yX1_peopleWritten : MethodName := ⟨RX1, "peopleWritten", "()I"⟩
abbrev cX1_kindWritten : ByteArray := prog_3_method_7_code
def yX1_kindWritten : MethodName := ⟨RX1, "kindWritten", "(I)I"⟩
abbrev cX1_nextWritten : ByteArray := prog_3_method_8_code
def yX1_nextWritten : MethodName := ⟨RX1, "nextWritten", "(I)I"⟩
abbrev cX1_riverWritten : ByteArray := prog_3_method_9_code
def yX1_riverWritten : MethodName := ⟨RX1, "riverWritten", "()I"⟩
abbrev cX1_codeAt : ByteArray := prog_3_method_10_code
def yX1_codeAt : MethodName := ⟨RX1, "codeAt", "(I)I"⟩
abbrev cX1_fits : ByteArray := prog_3_method_11_code
def yX1_fits : MethodName := ⟨RX1, "fits", "(I)Z"⟩
abbrev cX1_kindOfLetter : ByteArray := prog_3_method_12_code
def yX1_kindOfLetter : MethodName := ⟨RX1, "kindOfLetter", "(I)I"⟩
def RX2 : String := "DugBySaid$Past"
def TX2 : u_T := fun k => match k with
  | 0 => ("DugBySaid$Past", "nexts", "[I", true)
  | 1 => ("DugBySaid$Past", "listeners", "[I", true)
  | 2 => ("DugBySaid$Past", "heard", "[I", true)
  | 3 => ("DugBySaid$Past", "last", "[I", true)
  | 4 => ("DugBySaid$Past", "denied", "[I", true)
  | 5 => ("DugBySaid$Past", "askedWhom", "[I", true)
  | 6 => ("DugBySaid$Past", "askedDay", "[I", true)
  | 7 => ("DugBySaid$Past", "asked", "I", false)
  | 8 => ("DugBySaid$Past", "days", "I", false)
  | _ => ("DugBySaid$Past", "changes", "I", false)
def tyX2 : Nat → FieldType := fun k => match k with
  | 0 => .array .int
  | 1 => .array .int
  | 2 => .array .int
  | 3 => .array .int
  | 4 => .array .int
  | 5 => .array .int
  | 6 => .array .int
  | 7 => .int
  | 8 => .int
  | _ => .int
abbrev wsX20 : List Cond := u_ws RX2 TX2 10
theorem nmX2 : ∀ a, a < 10 → ∀ b, b < 10 → a ≠ b → (TX2 a).2.1 ≠ (TX2 b).2.1 := by decide +kernel
theorem tyX2_ok : ∀ k, k < 10 → parseFieldDescriptor (TX2 k).2.2.1 = some (tyX2 k) := by decide +kernel
abbrev cX2_init : ByteArray := prog_4_method_1_code
def yX2_init : MethodName := ⟨RX2, "<init>", "()V"⟩
abbrev cX2_begin : ByteArray := prog_4_method_2_code
def yX2_begin : MethodName := ⟨RX2, "begin", "()V"⟩
abbrev cX2_copy : ByteArray := prog_4_method_3_code
def yX2_copy : MethodName := ⟨RX2, "copy", "(LDugBySaid$Past;)V"⟩
abbrev cX2_nextOf : ByteArray := prog_4_method_4_code
def yX2_nextOf : MethodName := ⟨RX2, "nextOf", "(I)I"⟩
abbrev cX2_listenersOf : ByteArray := prog_4_method_5_code
def yX2_listenersOf : MethodName := ⟨RX2, "listenersOf", "(I)I"⟩
abbrev cX2_setNext : ByteArray := prog_4_method_6_code
def yX2_setNext : MethodName := ⟨RX2, "setNext", "(III)V"⟩
abbrev cX2_tunnelsHeardBy : ByteArray := prog_4_method_7_code
def yX2_tunnelsHeardBy : MethodName := ⟨RX2, "tunnelsHeardBy", "(I)I"⟩
abbrev cX2_hearings : ByteArray := prog_4_method_8_code
def yX2_hearings : MethodName := ⟨RX2, "hearings", "()I"⟩
abbrev cX2_note : ByteArray := prog_4_method_9_code
def yX2_note : MethodName := ⟨RX2, "note", "(II)Z"⟩
def RX3 : String := "DugBySaid$Riddle"
def TX3 : u_T := fun k => match k with
  | 0 => ("DugBySaid$Riddle", "hill", "LDugBySaid$Hill;", true)
  | 1 => ("DugBySaid$Riddle", "past", "LDugBySaid$Past;", true)
  | 2 => ("DugBySaid$Riddle", "talk", "LDugBySaid$Talk;", true)
  | _ => ("DugBySaid$Riddle", "left", "[I", true)
def tyX3 : Nat → FieldType := fun k => match k with
  | 0 => .object "DugBySaid$Hill"
  | 1 => .object "DugBySaid$Past"
  | 2 => .object "DugBySaid$Talk"
  | _ => .array .int
abbrev wsX30 : List Cond := u_ws RX3 TX3 4
theorem nmX3 : ∀ a, a < 4 → ∀ b, b < 4 → a ≠ b → (TX3 a).2.1 ≠ (TX3 b).2.1 := by decide +kernel
theorem tyX3_ok : ∀ k, k < 4 → parseFieldDescriptor (TX3 k).2.2.1 = some (tyX3 k) := by decide +kernel
abbrev cX3_init : ByteArray := prog_5_method_1_code
def yX3_init : MethodName := ⟨RX3, "<init>", "(LDugBySaid$Hill;LDugBySaid$Past;LDugBySaid$Talk;)V"⟩
abbrev cX3_beginners : ByteArray := prog_5_method_2_code
def yX3_beginners : MethodName := ⟨RX3, "beginners", "()I"⟩
abbrev cX3_bestToAsk : ByteArray := prog_5_method_3_code
def yX3_bestToAsk : MethodName := ⟨RX3, "bestToAsk", "(I)I"⟩
abbrev cX3_agrees : ByteArray := prog_5_method_4_code
def yX3_agrees : MethodName := ⟨RX3, "agrees", "(I)Z"⟩
abbrev cX3_leftAtWorst : ByteArray := prog_5_method_5_code
def yX3_leftAtWorst : MethodName := ⟨RX3, "leftAtWorst", "(II)I"⟩
def RX4 : String := "DugBySaid$Talk"
def TX4 : u_T := fun k => match k with
  | 0 => ("DugBySaid$Talk", "hill", "LDugBySaid$Hill;", true)
  | _ => ("DugBySaid$Talk", "past", "LDugBySaid$Past;", true)
def tyX4 : Nat → FieldType := fun k => match k with
  | 0 => .object "DugBySaid$Hill"
  | _ => .object "DugBySaid$Past"
abbrev wsX40 : List Cond := u_ws RX4 TX4 2
theorem nmX4 : ∀ a, a < 2 → ∀ b, b < 2 → a ≠ b → (TX4 a).2.1 ≠ (TX4 b).2.1 := by decide +kernel
theorem tyX4_ok : ∀ k, k < 2 → parseFieldDescriptor (TX4 k).2.2.1 = some (tyX4 k) := by decide +kernel
abbrev cX4_init : ByteArray := prog_6_method_1_code
def yX4_init : MethodName := ⟨RX4, "<init>", "(LDugBySaid$Hill;LDugBySaid$Past;)V"⟩
abbrev cX4_hearers : ByteArray := prog_6_method_2_code
def yX4_hearers : MethodName := ⟨RX4, "hearers", "(II)I"⟩
abbrev cX4_ends : ByteArray := prog_6_method_3_code
def yX4_ends : MethodName := ⟨RX4, "ends", "(I)I"⟩
abbrev cX4_lengthInTheEnd : ByteArray := prog_6_method_4_code
def yX4_lengthInTheEnd : MethodName := ⟨RX4, "lengthInTheEnd", "(III)I"⟩
abbrev cX4_lasts : ByteArray := prog_6_method_5_code
def yX4_lasts : MethodName := ⟨RX4, "lasts", "(I)I"⟩
abbrev cX4_dayHeard : ByteArray := prog_6_method_6_code
def yX4_dayHeard : MethodName := ⟨RX4, "dayHeard", "(II)I"⟩
def RX5 : String := "DugBySaid"
def TX5 : u_T := fun k => match k with
  | 0 => ("DugBySaid", "page", "LDugBySaid$Page;", true)
  | 1 => ("DugBySaid", "ground", "LDugBySaid$Hill;", true)
  | 2 => ("DugBySaid", "now", "LDugBySaid$Past;", true)
  | 3 => ("DugBySaid", "kept", "LDugBySaid$Past;", true)
  | 4 => ("DugBySaid", "talk", "LDugBySaid$Talk;", true)
  | 5 => ("DugBySaid", "riddle", "LDugBySaid$Riddle;", true)
  | 6 => ("DugBySaid", "hasImage", "Z", false)
  | _ => ("DugBySaid", "readings", "I", false)
def tyX5 : Nat → FieldType := fun k => match k with
  | 0 => .object "DugBySaid$Page"
  | 1 => .object "DugBySaid$Hill"
  | 2 => .object "DugBySaid$Past"
  | 3 => .object "DugBySaid$Past"
  | 4 => .object "DugBySaid$Talk"
  | 5 => .object "DugBySaid$Riddle"
  | 6 => .boolean
  | _ => .int
abbrev wsX50 : List Cond := u_ws RX5 TX5 8
theorem nmX5 : ∀ a, a < 8 → ∀ b, b < 8 → a ≠ b → (TX5 a).2.1 ≠ (TX5 b).2.1 := by decide +kernel
theorem tyX5_ok : ∀ k, k < 8 → parseFieldDescriptor (TX5 k).2.2.1 = some (tyX5 k) := by decide +kernel
abbrev cX5_init : ByteArray := prog_1_method_1_code
def yX5_init : MethodName := ⟨RX5, "<init>", "()V"⟩
abbrev cX5_letter : ByteArray := prog_1_method_2_code
def yX5_letter : MethodName := ⟨RX5, "letter", "(I)I"⟩
abbrev cX5_blank : ByteArray := prog_1_method_3_code
def yX5_blank : MethodName := ⟨RX5, "blank", "()I"⟩
abbrev cX5_fault : ByteArray := prog_1_method_4_code
def yX5_fault : MethodName := ⟨RX5, "fault", "()I"⟩
abbrev cX5_hill : ByteArray := prog_1_method_5_code
def yX5_hill : MethodName := ⟨RX5, "hill", "()I"⟩
abbrev cX5_person : ByteArray := prog_1_method_6_code
def yX5_person : MethodName := ⟨RX5, "person", "(II)I"⟩
abbrev cX5_as : ByteArray := prog_1_method_7_code
def yX5_as : MethodName := ⟨RX5, "as", "(II)I"⟩
abbrev cX5_next : ByteArray := prog_1_method_8_code
def yX5_next : MethodName := ⟨RX5, "next", "(II)I"⟩
abbrev cX5_point : ByteArray := prog_1_method_9_code
def yX5_point : MethodName := ⟨RX5, "point", "(II)V"⟩
abbrev cX5_tell : ByteArray := prog_1_method_10_code
def yX5_tell : MethodName := ⟨RX5, "tell", "(II)I"⟩
abbrev cX5_day : ByteArray := prog_1_method_11_code
def yX5_day : MethodName := ⟨RX5, "day", "()I"⟩
abbrev cX5_deny : ByteArray := prog_1_method_12_code
def yX5_deny : MethodName := ⟨RX5, "deny", "(I)I"⟩
abbrev cX5_tunnel : ByteArray := prog_1_method_13_code
def yX5_tunnel : MethodName := ⟨RX5, "tunnel", "(II)I"⟩
abbrev cX5_isTunnel : ByteArray := prog_1_method_14_code
def yX5_isTunnel : MethodName := ⟨RX5, "isTunnel", "(I)Z"⟩
abbrev cX5_lengthOf : ByteArray := prog_1_method_15_code
def yX5_lengthOf : MethodName := ⟨RX5, "lengthOf", "(I)I"⟩
abbrev cX5_aim : ByteArray := prog_1_method_16_code
def yX5_aim : MethodName := ⟨RX5, "aim", "(II)I"⟩
abbrev cX5_fewestToTell : ByteArray := prog_1_method_17_code
def yX5_fewestToTell : MethodName := ⟨RX5, "fewestToTell", "(I)I"⟩
abbrev cX5_heard : ByteArray := prog_1_method_18_code
def yX5_heard : MethodName := ⟨RX5, "heard", "(II)I"⟩
abbrev cX5_forget : ByteArray := prog_1_method_19_code
def yX5_forget : MethodName := ⟨RX5, "forget", "()I"⟩
abbrev cX5_began : ByteArray := prog_1_method_20_code
def yX5_began : MethodName := ⟨RX5, "began", "()I"⟩
abbrev cX5_ask : ByteArray := prog_1_method_21_code
def yX5_ask : MethodName := ⟨RX5, "ask", "()I"⟩
abbrev cX5_markets : ByteArray := prog_1_method_22_code
def yX5_markets : MethodName := ⟨RX5, "markets", "(III)I"⟩
abbrev cX5_seedBehind : ByteArray := prog_1_method_23_code
def yX5_seedBehind : MethodName := ⟨RX5, "seedBehind", "(I)I"⟩
abbrev cX5_image : ByteArray := prog_1_method_24_code
def yX5_image : MethodName := ⟨RX5, "image", "()I"⟩
abbrev cX5_restore : ByteArray := prog_1_method_25_code
def yX5_restore : MethodName := ⟨RX5, "restore", "()I"⟩
abbrev cX5_count : ByteArray := prog_1_method_26_code
def yX5_count : MethodName := ⟨RX5, "count", "(I)I"⟩
abbrev cX5_lengthOfAll : ByteArray := prog_1_method_27_code
def yX5_lengthOfAll : MethodName := ⟨RX5, "lengthOfAll", "()I"⟩
abbrev cX5_digest : ByteArray := prog_1_method_28_code
def yX5_digest : MethodName := ⟨RX5, "digest", "()J"⟩
abbrev cX5_withPeople : ByteArray := prog_1_method_29_code
def yX5_withPeople : MethodName := ⟨RX5, "withPeople", "(J)J"⟩
abbrev cX5_withTunnels : ByteArray := prog_1_method_30_code
def yX5_withTunnels : MethodName := ⟨RX5, "withTunnels", "(J)J"⟩
abbrev cX5_withLetters : ByteArray := prog_1_method_31_code
def yX5_withLetters : MethodName := ⟨RX5, "withLetters", "(J)J"⟩
abbrev cX5_mixed : ByteArray := prog_1_method_32_code
def yX5_mixed : MethodName := ⟨RX5, "mixed", "(JJ)J"⟩
abbrev cX5_isOfKind : ByteArray := prog_1_method_33_code
def yX5_isOfKind : MethodName := ⟨RX5, "isOfKind", "(II)Z"⟩
abbrev cX5_isIn : ByteArray := prog_1_method_34_code
def yX5_isIn : MethodName := ⟨RX5, "isIn", "(II)Z"⟩
def RX6 : String := "DugBySaidModel"
def TX6 : u_T := fun k => match k with
  | 0 => ("DugBySaidModel", "page", "[I", true)
  | 1 => ("DugBySaidModel", "pageMany", "I", false)
  | 2 => ("DugBySaidModel", "endAt", "I", false)
  | 3 => ("DugBySaidModel", "people", "I", false)
  | 4 => ("DugBySaidModel", "river", "I", false)
  | 5 => ("DugBySaidModel", "days", "I", false)
  | 6 => ("DugBySaidModel", "changes", "I", false)
  | 7 => ("DugBySaidModel", "hillsRead", "I", false)
  | 8 => ("DugBySaidModel", "rows", "[I", true)
  | 9 => ("DugBySaidModel", "tunnels", "[I", true)
  | 10 => ("DugBySaidModel", "askedMany", "I", false)
  | 11 => ("DugBySaidModel", "askeds", "[I", true)
  | 12 => ("DugBySaidModel", "parts", "[I", true)
  | 13 => ("DugBySaidModel", "seedNow", "I", false)
  | 14 => ("DugBySaidModel", "keptHill", "I", false)
  | 15 => ("DugBySaidModel", "keptDays", "I", false)
  | 16 => ("DugBySaidModel", "keptChanges", "I", false)
  | 17 => ("DugBySaidModel", "keptAsked", "I", false)
  | 18 => ("DugBySaidModel", "keptRows", "[I", true)
  | 19 => ("DugBySaidModel", "keptTunnels", "[I", true)
  | 20 => ("DugBySaidModel", "keptAskeds", "[I", true)
  | _ => ("DugBySaidModel", "hash", "J", false)
def tyX6 : Nat → FieldType := fun k => match k with
  | 0 => .array .int
  | 1 => .int
  | 2 => .int
  | 3 => .int
  | 4 => .int
  | 5 => .int
  | 6 => .int
  | 7 => .int
  | 8 => .array .int
  | 9 => .array .int
  | 10 => .int
  | 11 => .array .int
  | 12 => .array .int
  | 13 => .int
  | 14 => .int
  | 15 => .int
  | 16 => .int
  | 17 => .int
  | 18 => .array .int
  | 19 => .array .int
  | 20 => .array .int
  | _ => .long
abbrev wsX60 : List Cond := u_ws RX6 TX6 22
theorem nmX6 : ∀ a, a < 22 → ∀ b, b < 22 → a ≠ b → (TX6 a).2.1 ≠ (TX6 b).2.1 := by decide +kernel
theorem tyX6_ok : ∀ k, k < 22 → parseFieldDescriptor (TX6 k).2.2.1 = some (tyX6 k) := by decide +kernel
abbrev cX6_init : ByteArray := prog_8_method_1_code
def yX6_init : MethodName := ⟨RX6, "<init>", "()V"⟩
abbrev cX6_in : ByteArray := prog_8_method_2_code
def yX6_in : MethodName := ⟨RX6, "in", "(JJJ)Z"⟩
abbrev cX6_copy : ByteArray := prog_8_method_3_code
def yX6_copy : MethodName := ⟨RX6, "copy", "([I[I)V"⟩
abbrev cX6_ones : ByteArray := prog_8_method_4_code
def yX6_ones : MethodName := ⟨RX6, "ones", "(I)I"⟩
abbrev cX6_letter : ByteArray := prog_8_method_5_code
def yX6_letter : MethodName := ⟨RX6, "letter", "(I)I"⟩
abbrev cX6_blank : ByteArray := prog_8_method_6_code
def yX6_blank : MethodName := ⟨RX6, "blank", "()I"⟩
abbrev cX6_kindBy : ByteArray := prog_8_method_7_code
def yX6_kindBy : MethodName := ⟨RX6, "kindBy", "(I)I"⟩
abbrev cX6_isGood : ByteArray := prog_8_method_8_code
def yX6_isGood : MethodName := ⟨RX6, "isGood", "(I)Z"⟩
abbrev cX6_faultOf : ByteArray := prog_8_method_9_code
def yX6_faultOf : MethodName := ⟨RX6, "faultOf", "()I"⟩
abbrev cX6_fault : ByteArray := prog_8_method_10_code
def yX6_fault : MethodName := ⟨RX6, "fault", "()I"⟩
abbrev cX6_hill : ByteArray := prog_8_method_11_code
def yX6_hill : MethodName := ⟨RX6, "hill", "()I"⟩
abbrev cX6_lacks : ByteArray := prog_8_method_12_code
def yX6_lacks : MethodName := ⟨RX6, "lacks", "()Z"⟩
abbrev cX6_isPerson : ByteArray := prog_8_method_13_code
def yX6_isPerson : MethodName := ⟨RX6, "isPerson", "(I)Z"⟩
abbrev cX6_isTunnel : ByteArray := prog_8_method_14_code
def yX6_isTunnel : MethodName := ⟨RX6, "isTunnel", "(I)Z"⟩
abbrev cX6_tellsOf : ByteArray := prog_8_method_15_code
def yX6_tellsOf : MethodName := ⟨RX6, "tellsOf", "(I)I"⟩
abbrev cX6_toldBy : ByteArray := prog_8_method_16_code
def yX6_toldBy : MethodName := ⟨RX6, "toldBy", "(I)I"⟩
abbrev cX6_endBy : ByteArray := prog_8_method_17_code
def yX6_endBy : MethodName := ⟨RX6, "endBy", "(II)I"⟩
abbrev cX6_yardsBy : ByteArray := prog_8_method_18_code
def yX6_yardsBy : MethodName := ⟨RX6, "yardsBy", "(I)I"⟩
abbrev cX6_lengthBy : ByteArray := prog_8_method_19_code
def yX6_lengthBy : MethodName := ⟨RX6, "lengthBy", "(II)I"⟩
abbrev cX6_endsOf : ByteArray := prog_8_method_20_code
def yX6_endsOf : MethodName := ⟨RX6, "endsOf", "(I)I"⟩
abbrev cX6_dayOf : ByteArray := prog_8_method_21_code
def yX6_dayOf : MethodName := ⟨RX6, "dayOf", "(II)I"⟩
abbrev cX6_lastsOf : ByteArray := prog_8_method_22_code
def yX6_lastsOf : MethodName := ⟨RX6, "lastsOf", "(I)I"⟩
abbrev cX6_tunnelsOf : ByteArray := prog_8_method_23_code
def yX6_tunnelsOf : MethodName := ⟨RX6, "tunnelsOf", "(I)I"⟩
abbrev cX6_tellPerson : ByteArray := prog_8_method_24_code
def yX6_tellPerson : MethodName := ⟨RX6, "tellPerson", "(II)I"⟩
abbrev cX6_person : ByteArray := prog_8_method_25_code
def yX6_person : MethodName := ⟨RX6, "person", "(II)I"⟩
abbrev cX6_as : ByteArray := prog_8_method_26_code
def yX6_as : MethodName := ⟨RX6, "as", "(II)I"⟩
abbrev cX6_next : ByteArray := prog_8_method_27_code
def yX6_next : MethodName := ⟨RX6, "next", "(II)I"⟩
abbrev cX6_lengthOf : ByteArray := prog_8_method_28_code
def yX6_lengthOf : MethodName := ⟨RX6, "lengthOf", "(I)I"⟩
abbrev cX6_tell : ByteArray := prog_8_method_29_code
def yX6_tell : MethodName := ⟨RX6, "tell", "(II)I"⟩
abbrev cX6_day : ByteArray := prog_8_method_30_code
def yX6_day : MethodName := ⟨RX6, "day", "()I"⟩
abbrev cX6_deny : ByteArray := prog_8_method_31_code
def yX6_deny : MethodName := ⟨RX6, "deny", "(I)I"⟩
abbrev cX6_tellTunnel : ByteArray := prog_8_method_32_code
def yX6_tellTunnel : MethodName := ⟨RX6, "tellTunnel", "(II)I"⟩
abbrev cX6_tunnel : ByteArray := prog_8_method_33_code
def yX6_tunnel : MethodName := ⟨RX6, "tunnel", "(II)I"⟩
abbrev cX6_aimOf : ByteArray := prog_8_method_34_code
def yX6_aimOf : MethodName := ⟨RX6, "aimOf", "(II)I"⟩
abbrev cX6_aim : ByteArray := prog_8_method_35_code
def yX6_aim : MethodName := ⟨RX6, "aim", "(II)I"⟩
abbrev cX6_heard : ByteArray := prog_8_method_36_code
def yX6_heard : MethodName := ⟨RX6, "heard", "(II)I"⟩
abbrev cX6_forget : ByteArray := prog_8_method_37_code
def yX6_forget : MethodName := ⟨RX6, "forget", "()I"⟩
abbrev cX6_beganOf : ByteArray := prog_8_method_38_code
def yX6_beganOf : MethodName := ⟨RX6, "beganOf", "()I"⟩
abbrev cX6_began : ByteArray := prog_8_method_39_code
def yX6_began : MethodName := ⟨RX6, "began", "()I"⟩
abbrev cX6_askOf : ByteArray := prog_8_method_40_code
def yX6_askOf : MethodName := ⟨RX6, "askOf", "()I"⟩
abbrev cX6_ask : ByteArray := prog_8_method_41_code
def yX6_ask : MethodName := ⟨RX6, "ask", "()I"⟩
abbrev cX6_draw : ByteArray := prog_8_method_42_code
def yX6_draw : MethodName := ⟨RX6, "draw", "(I)I"⟩
abbrev cX6_markets : ByteArray := prog_8_method_43_code
def yX6_markets : MethodName := ⟨RX6, "markets", "(III)I"⟩
abbrev cX6_image : ByteArray := prog_8_method_44_code
def yX6_image : MethodName := ⟨RX6, "image", "()I"⟩
abbrev cX6_restore : ByteArray := prog_8_method_45_code
def yX6_restore : MethodName := ⟨RX6, "restore", "()I"⟩
abbrev cX6_lengthAll : ByteArray := prog_8_method_46_code
def yX6_lengthAll : MethodName := ⟨RX6, "lengthAll", "()I"⟩
abbrev cX6_heardAll : ByteArray := prog_8_method_47_code
def yX6_heardAll : MethodName := ⟨RX6, "heardAll", "()I"⟩
abbrev cX6_countOf : ByteArray := prog_8_method_48_code
def yX6_countOf : MethodName := ⟨RX6, "countOf", "(I)I"⟩
abbrev cX6_count : ByteArray := prog_8_method_49_code
def yX6_count : MethodName := ⟨RX6, "count", "(I)I"⟩
abbrev cX6_say : ByteArray := prog_8_method_50_code
def yX6_say : MethodName := ⟨RX6, "say", "(J)V"⟩
abbrev cX6_sayHill : ByteArray := prog_8_method_51_code
def yX6_sayHill : MethodName := ⟨RX6, "sayHill", "()V"⟩
abbrev cX6_digest : ByteArray := prog_8_method_52_code
def yX6_digest : MethodName := ⟨RX6, "digest", "()J"⟩
def RJ11 : String := "java/lang/Character"
def TJ11 : u_T := fun k => match k with
  | _ => ("", "", "", false)
def tyJ11 : Nat → FieldType := fun k => match k with
  | _ => .int
abbrev wsJ110 : List Cond := u_ws RJ11 TJ11 0
theorem nmJ11 : ∀ a, a < 0 → ∀ b, b < 0 → a ≠ b → (TJ11 a).2.1 ≠ (TJ11 b).2.1 := by decide +kernel
theorem tyJ11_ok : ∀ k, k < 0 → parseFieldDescriptor (TJ11 k).2.2.1 = some (tyJ11 k) := by decide +kernel
abbrev cJ11_isValidCodePoint_9a6ad : ByteArray := prog_9_method_11_code
def yJ11_isValidCodePoint_9a6ad : MethodName := ⟨RJ11, "isValidCodePoint", "(I)Z"⟩
abbrev cJ11_highSurrogate_5068e : ByteArray := prog_9_method_28_code
def yJ11_highSurrogate_5068e : MethodName := ⟨RJ11, "highSurrogate", "(I)C"⟩
abbrev cJ11_lowSurrogate_5068e : ByteArray := prog_9_method_29_code
def yJ11_lowSurrogate_5068e : MethodName := ⟨RJ11, "lowSurrogate", "(I)C"⟩
def RJ6 : String := "java/lang/Integer"
def TJ6 : u_T := fun k => match k with
  | _ => ("", "", "", false)
def tyJ6 : Nat → FieldType := fun k => match k with
  | _ => .int
abbrev wsJ60 : List Cond := u_ws RJ6 TJ6 0
theorem nmJ6 : ∀ a, a < 0 → ∀ b, b < 0 → a ≠ b → (TJ6 a).2.1 ≠ (TJ6 b).2.1 := by decide +kernel
theorem tyJ6_ok : ∀ k, k < 0 → parseFieldDescriptor (TJ6 k).2.2.1 = some (tyJ6 k) := by decide +kernel
abbrev cJ6_bitCount_0f7a4 : ByteArray := prog_10_method_49_code
def yJ6_bitCount_0f7a4 : MethodName := ⟨RJ6, "bitCount", "(I)I"⟩
def RJ9 : String := "java/lang/Math"
def TJ9 : u_T := fun k => match k with
  | _ => ("", "", "", false)
def tyJ9 : Nat → FieldType := fun k => match k with
  | _ => .int
abbrev wsJ90 : List Cond := u_ws RJ9 TJ9 0
theorem nmJ9 : ∀ a, a < 0 → ∀ b, b < 0 → a ≠ b → (TJ9 a).2.1 ≠ (TJ9 b).2.1 := by decide +kernel
theorem tyJ9_ok : ∀ k, k < 0 → parseFieldDescriptor (TJ9 k).2.2.1 = some (tyJ9 k) := by decide +kernel
abbrev cJ9_max_7cf53 : ByteArray := prog_11_method_65_code
def yJ9_max_7cf53 : MethodName := ⟨RJ9, "max", "(II)I"⟩
abbrev cJ9_min_7cf53 : ByteArray := prog_11_method_69_code
def yJ9_min_7cf53 : MethodName := ⟨RJ9, "min", "(II)I"⟩
def RJ0 : String := "java/lang/String"
def TJ0 : u_T := fun k => match k with
  | _ => ("", "", "", false)
def tyJ0 : Nat → FieldType := fun k => match k with
  | _ => .int
abbrev wsJ00 : List Cond := u_ws RJ0 TJ0 0
theorem nmJ0 : ∀ a, a < 0 → ∀ b, b < 0 → a ≠ b → (TJ0 a).2.1 ≠ (TJ0 b).2.1 := by decide +kernel
theorem tyJ0_ok : ∀ k, k < 0 → parseFieldDescriptor (TJ0 k).2.2.1 = some (tyJ0 k) := by decide +kernel
abbrev cJ0_length_8abf5 : ByteArray := prog_12_method_54_code
def yJ0_length_8abf5 : MethodName := ⟨RJ0, "length", "()I"⟩
abbrev cJ0_indexOf_0f7a4 : ByteArray := prog_12_method_79_code
def yJ0_indexOf_0f7a4 : MethodName := ⟨RJ0, "indexOf", "(I)I"⟩
abbrev cJ0_indexOf_7cf53 : ByteArray := prog_12_method_80_code
def yJ0_indexOf_7cf53 : MethodName := ⟨RJ0, "indexOf", "(II)I"⟩
abbrev cJ0_coder_7d493 : ByteArray := prog_12_method_152_code
def yJ0_coder_7d493 : MethodName := ⟨RJ0, "coder", "()B"⟩
abbrev cJ0_isLatin1_aae02 : ByteArray := prog_12_method_154_code
def yJ0_isLatin1_aae02 : MethodName := ⟨RJ0, "isLatin1", "()Z"⟩
abbrev cJ0_checkBoundsBeginEnd_23922 : ByteArray := prog_12_method_158_code
def yJ0_checkBoundsBeginEnd_23922 : MethodName := ⟨RJ0, "checkBoundsBeginEnd", "(III)V"⟩
def RJ1 : String := "java/lang/StringLatin1"
def TJ1 : u_T := fun k => match k with
  | _ => ("", "", "", false)
def tyJ1 : Nat → FieldType := fun k => match k with
  | _ => .int
abbrev wsJ10 : List Cond := u_ws RJ1 TJ1 0
theorem nmJ1 : ∀ a, a < 0 → ∀ b, b < 0 → a ≠ b → (TJ1 a).2.1 ≠ (TJ1 b).2.1 := by decide +kernel
theorem tyJ1_ok : ∀ k, k < 0 → parseFieldDescriptor (TJ1 k).2.2.1 = some (tyJ1 k) := by decide +kernel
abbrev cJ1_canEncode_9a6ad : ByteArray := prog_13_method_4_code
def yJ1_canEncode_9a6ad : MethodName := ⟨RJ1, "canEncode", "(I)Z"⟩
abbrev cJ1_indexOf_4cfef : ByteArray := prog_13_method_22_code
def yJ1_indexOf_4cfef : MethodName := ⟨RJ1, "indexOf", "([BIII)I"⟩
abbrev cJ1_indexOfChar_4cfef : ByteArray := prog_13_method_23_code
def yJ1_indexOfChar_4cfef : MethodName := ⟨RJ1, "indexOfChar", "([BIII)I"⟩
def RJ2 : String := "java/lang/StringUTF16"
def TJ2 : u_T := fun k => match k with
  | _ => ("", "", "", false)
def tyJ2 : Nat → FieldType := fun k => match k with
  | _ => .int
abbrev wsJ20 : List Cond := u_ws RJ2 TJ2 0
theorem nmJ2 : ∀ a, a < 0 → ∀ b, b < 0 → a ≠ b → (TJ2 a).2.1 ≠ (TJ2 b).2.1 := by decide +kernel
theorem tyJ2_ok : ∀ k, k < 0 → parseFieldDescriptor (TJ2 k).2.2.1 = some (tyJ2 k) := by decide +kernel
abbrev cJ2_getChar_3b067 : ByteArray := prog_14_method_5_code
def yJ2_getChar_3b067 : MethodName := ⟨RJ2, "getChar", "([BI)C"⟩
abbrev cJ2_length_9d52b : ByteArray := prog_14_method_6_code
def yJ2_length_9d52b : MethodName := ⟨RJ2, "length", "([B)I"⟩
abbrev cJ2_indexOf_4cfef : ByteArray := prog_14_method_40_code
def yJ2_indexOf_4cfef : MethodName := ⟨RJ2, "indexOf", "([BIII)I"⟩
abbrev cJ2_indexOfChar_4cfef : ByteArray := prog_14_method_47_code
def yJ2_indexOfChar_4cfef : MethodName := ⟨RJ2, "indexOfChar", "([BIII)I"⟩
abbrev cJ2_indexOfCharUnsafe_4cfef : ByteArray := prog_14_method_48_code
def yJ2_indexOfCharUnsafe_4cfef : MethodName := ⟨RJ2, "indexOfCharUnsafe", "([BIII)I"⟩
abbrev cJ2_indexOfSupplementary_4cfef : ByteArray := prog_14_method_49_code
def yJ2_indexOfSupplementary_4cfef : MethodName := ⟨RJ2, "indexOfSupplementary", "([BIII)I"⟩
abbrev cJ2_checkBoundsBeginEnd_d044e : ByteArray := prog_14_method_93_code
def yJ2_checkBoundsBeginEnd_d044e : MethodName := ⟨RJ2, "checkBoundsBeginEnd", "(II[B)V"⟩
def RJ10 : String := "java/lang/System"
def TJ10 : u_T := fun k => match k with
  | _ => ("", "", "", false)
def tyJ10 : Nat → FieldType := fun k => match k with
  | _ => .int
abbrev wsJ100 : List Cond := u_ws RJ10 TJ10 0
theorem nmJ10 : ∀ a, a < 0 → ∀ b, b < 0 → a ≠ b → (TJ10 a).2.1 ≠ (TJ10 b).2.1 := by decide +kernel
theorem tyJ10_ok : ∀ k, k < 0 → parseFieldDescriptor (TJ10 k).2.2.1 = some (tyJ10 k) := by decide +kernel
def RJ3 : String := "jdk/internal/util/Preconditions"
def TJ3 : u_T := fun k => match k with
  | _ => ("", "", "", false)
def tyJ3 : Nat → FieldType := fun k => match k with
  | _ => .int
abbrev wsJ30 : List Cond := u_ws RJ3 TJ3 0
theorem nmJ3 : ∀ a, a < 0 → ∀ b, b < 0 → a ≠ b → (TJ3 a).2.1 ≠ (TJ3 b).2.1 := by decide +kernel
theorem tyJ3_ok : ∀ k, k < 0 → parseFieldDescriptor (TJ3 k).2.2.1 = some (tyJ3 k) := by decide +kernel
abbrev cJ3_checkFromToIndex_8c36e : ByteArray := prog_16_method_12_code
def yJ3_checkFromToIndex_8c36e : MethodName := ⟨RJ3, "checkFromToIndex", "(IIILjava/util/function/BiFunction;)I"⟩
def RL : String := "DugBySaidLaw"
abbrev cL_law : ByteArray := code
def yL_law : MethodName := ⟨RL, "law", "([I)Z"⟩
abbrev vwCl : List vw_C := [(RX0, TX0, 3), (RX1, TX1, 2), (RX2, TX2, 10), (RX3, TX3, 4), (RX4, TX4, 2), (RX5, TX5, 8), (RX6, TX6, 22)]
end
section
theorem dX0_init_0 : decode cX0_init 0 = .ok (.aload_n 0, 1) := by decide +kernel
theorem dX0_init_1 : decode cX0_init 1 = .ok (.invokespecial 3, 3) := by decide +kernel
theorem dX0_init_4 : decode cX0_init 4 = .ok (.aload_n 0, 1) := by decide +kernel
theorem dX0_init_5 : decode cX0_init 5 = .ok (.bipush 6, 2) := by decide +kernel
theorem dX0_init_7 : decode cX0_init 7 = .ok (.newarray .int, 2) := by decide +kernel
theorem dX0_init_9 : decode cX0_init 9 = .ok (.putfield 9, 3) := by decide +kernel
theorem dX0_init_12 : decode cX0_init 12 = .ok (.aload_n 0, 1) := by decide +kernel
theorem dX0_init_13 : decode cX0_init 13 = .ok (.iconst 0, 1) := by decide +kernel
theorem dX0_init_14 : decode cX0_init 14 = .ok (.putfield 15, 3) := by decide +kernel
theorem dX0_init_17 : decode cX0_init 17 = .ok (.aload_n 0, 1) := by decide +kernel
theorem dX0_init_18 : decode cX0_init 18 = .ok (.iconst 0, 1) := by decide +kernel
theorem dX0_init_19 : decode cX0_init 19 = .ok (.putfield 19, 3) := by decide +kernel
theorem dX0_init_22 : decode cX0_init 22 = .ok (.return_, 1) := by decide +kernel
theorem dX0_read_0 : decode cX0_read 0 = .ok (.aload_n 0, 1) := by decide +kernel
theorem dX0_read_1 : decode cX0_read 1 = .ok (.aload_n 1, 1) := by decide +kernel
theorem dX0_read_2 : decode cX0_read 2 = .ok (.invokevirtual 22, 3) := by decide +kernel
theorem dX0_read_5 : decode cX0_read 5 = .ok (.bipush 6, 2) := by decide +kernel
theorem dX0_read_7 : decode cX0_read 7 = .ok (.invokestatic 28, 3) := by decide +kernel
theorem dX0_read_10 : decode cX0_read 10 = .ok (.putfield 15, 3) := by decide +kernel
theorem dX0_read_13 : decode cX0_read 13 = .ok (.aload_n 0, 1) := by decide +kernel
theorem dX0_read_14 : decode cX0_read 14 = .ok (.aload_n 1, 1) := by decide +kernel
theorem dX0_read_15 : decode cX0_read 15 = .ok (.invokevirtual 34, 3) := by decide +kernel
theorem dX0_read_18 : decode cX0_read 18 = .ok (.putfield 19, 3) := by decide +kernel
theorem dX0_read_21 : decode cX0_read 21 = .ok (.iconst 0, 1) := by decide +kernel
theorem dX0_read_22 : decode cX0_read 22 = .ok (.istore_n 2, 1) := by decide +kernel
theorem dX0_read_23 : decode cX0_read 23 = .ok (.iload_n 2, 1) := by decide +kernel
theorem dX0_read_24 : decode cX0_read 24 = .ok (.aload_n 0, 1) := by decide +kernel
theorem dX0_read_25 : decode cX0_read 25 = .ok (.getfield 15, 3) := by decide +kernel
theorem dX0_read_28 : decode cX0_read 28 = .ok (.if_icmp .ge 20, 3) := by decide +kernel
theorem dX0_read_31 : decode cX0_read 31 = .ok (.aload_n 0, 1) := by decide +kernel
theorem dX0_read_32 : decode cX0_read 32 = .ok (.getfield 9, 3) := by decide +kernel
theorem dX0_read_35 : decode cX0_read 35 = .ok (.iload_n 2, 1) := by decide +kernel
theorem dX0_read_36 : decode cX0_read 36 = .ok (.aload_n 1, 1) := by decide +kernel
theorem dX0_read_37 : decode cX0_read 37 = .ok (.iload_n 2, 1) := by decide +kernel
theorem dX0_read_38 : decode cX0_read 38 = .ok (.invokevirtual 37, 3) := by decide +kernel
theorem dX0_read_41 : decode cX0_read 41 = .ok (.iastore, 1) := by decide +kernel
theorem dX0_read_42 : decode cX0_read 42 = .ok (.iinc 2 1, 3) := by decide +kernel
theorem dX0_read_45 : decode cX0_read 45 = .ok (.goto (-22), 3) := by decide +kernel
theorem dX0_read_48 : decode cX0_read 48 = .ok (.return_, 1) := by decide +kernel
theorem dX0_isThere_0 : decode cX0_isThere 0 = .ok (.aload_n 0, 1) := by decide +kernel
theorem dX0_isThere_1 : decode cX0_isThere 1 = .ok (.getfield 15, 3) := by decide +kernel
theorem dX0_isThere_4 : decode cX0_isThere 4 = .ok (.ifCond .le 7, 3) := by decide +kernel
theorem dX0_isThere_7 : decode cX0_isThere 7 = .ok (.iconst 1, 1) := by decide +kernel
theorem dX0_isThere_8 : decode cX0_isThere 8 = .ok (.goto 4, 3) := by decide +kernel
theorem dX0_isThere_11 : decode cX0_isThere 11 = .ok (.iconst 0, 1) := by decide +kernel
theorem dX0_isThere_12 : decode cX0_isThere 12 = .ok (.ireturn, 1) := by decide +kernel
theorem dX0_has_0 : decode cX0_has 0 = .ok (.iload_n 1, 1) := by decide +kernel
theorem dX0_has_1 : decode cX0_has 1 = .ok (.ifCond .lt 15, 3) := by decide +kernel
theorem dX0_has_4 : decode cX0_has 4 = .ok (.iload_n 1, 1) := by decide +kernel
theorem dX0_has_5 : decode cX0_has 5 = .ok (.aload_n 0, 1) := by decide +kernel
theorem dX0_has_6 : decode cX0_has 6 = .ok (.getfield 15, 3) := by decide +kernel
theorem dX0_has_9 : decode cX0_has 9 = .ok (.if_icmp .ge 7, 3) := by decide +kernel
theorem dX0_has_12 : decode cX0_has 12 = .ok (.iconst 1, 1) := by decide +kernel
theorem dX0_has_13 : decode cX0_has 13 = .ok (.goto 4, 3) := by decide +kernel
theorem dX0_has_16 : decode cX0_has 16 = .ok (.iconst 0, 1) := by decide +kernel
theorem dX0_has_17 : decode cX0_has 17 = .ok (.ireturn, 1) := by decide +kernel
theorem dX0_kindOf_0 : decode cX0_kindOf 0 = .ok (.iload_n 1, 1) := by decide +kernel
theorem dX0_kindOf_1 : decode cX0_kindOf 1 = .ok (.ifCond .lt 21, 3) := by decide +kernel
theorem dX0_kindOf_4 : decode cX0_kindOf 4 = .ok (.iload_n 1, 1) := by decide +kernel
theorem dX0_kindOf_5 : decode cX0_kindOf 5 = .ok (.aload_n 0, 1) := by decide +kernel
theorem dX0_kindOf_6 : decode cX0_kindOf 6 = .ok (.getfield 9, 3) := by decide +kernel
theorem dX0_kindOf_9 : decode cX0_kindOf 9 = .ok (.arraylength, 1) := by decide +kernel
theorem dX0_kindOf_10 : decode cX0_kindOf 10 = .ok (.if_icmp .ge 12, 3) := by decide +kernel
theorem dX0_kindOf_13 : decode cX0_kindOf 13 = .ok (.aload_n 0, 1) := by decide +kernel
theorem dX0_kindOf_14 : decode cX0_kindOf 14 = .ok (.getfield 9, 3) := by decide +kernel
theorem dX0_kindOf_17 : decode cX0_kindOf 17 = .ok (.iload_n 1, 1) := by decide +kernel
theorem dX0_kindOf_18 : decode cX0_kindOf 18 = .ok (.iaload, 1) := by decide +kernel
theorem dX0_kindOf_19 : decode cX0_kindOf 19 = .ok (.goto 4, 3) := by decide +kernel
theorem dX0_kindOf_22 : decode cX0_kindOf 22 = .ok (.iconst 0, 1) := by decide +kernel
theorem dX0_kindOf_23 : decode cX0_kindOf 23 = .ok (.ireturn, 1) := by decide +kernel
theorem dX0_listeners_0 : decode cX0_listeners 0 = .ok (.aload_n 0, 1) := by decide +kernel
theorem dX0_listeners_1 : decode cX0_listeners 1 = .ok (.iload_n 1, 1) := by decide +kernel
theorem dX0_listeners_2 : decode cX0_listeners 2 = .ok (.invokevirtual 41, 3) := by decide +kernel
theorem dX0_listeners_5 : decode cX0_listeners 5 = .ok (.istore_n 3, 1) := by decide +kernel
theorem dX0_listeners_6 : decode cX0_listeners 6 = .ok (.iload_n 3, 1) := by decide +kernel
theorem dX0_listeners_7 : decode cX0_listeners 7 = .ok (.iconst 1, 1) := by decide +kernel
theorem dX0_listeners_8 : decode cX0_listeners 8 = .ok (.if_icmp .eq 11, 3) := by decide +kernel
theorem dX0_listeners_11 : decode cX0_listeners 11 = .ok (.aload_n 0, 1) := by decide +kernel
theorem dX0_listeners_12 : decode cX0_listeners 12 = .ok (.iload_n 2, 1) := by decide +kernel
theorem dX0_listeners_13 : decode cX0_listeners 13 = .ok (.invokevirtual 44, 3) := by decide +kernel
theorem dX0_listeners_16 : decode cX0_listeners 16 = .ok (.ifCond .ne 5, 3) := by decide +kernel
theorem dX0_listeners_19 : decode cX0_listeners 19 = .ok (.iconst 0, 1) := by decide +kernel
theorem dX0_listeners_20 : decode cX0_listeners 20 = .ok (.ireturn, 1) := by decide +kernel
theorem dX0_listeners_21 : decode cX0_listeners 21 = .ok (.iload_n 2, 1) := by decide +kernel
theorem dX0_listeners_22 : decode cX0_listeners 22 = .ok (.iconst 1, 1) := by decide +kernel
theorem dX0_listeners_23 : decode cX0_listeners 23 = .ok (.iadd, 1) := by decide +kernel
theorem dX0_listeners_24 : decode cX0_listeners 24 = .ok (.istore 4, 2) := by decide +kernel
theorem dX0_listeners_26 : decode cX0_listeners 26 = .ok (.iload_n 3, 1) := by decide +kernel
theorem dX0_listeners_27 : decode cX0_listeners 27 = .ok (.iconst 2, 1) := by decide +kernel
theorem dX0_listeners_28 : decode cX0_listeners 28 = .ok (.invokestatic 48, 3) := by decide +kernel
theorem dX0_listeners_31 : decode cX0_listeners 31 = .ok (.ifCond .eq 22, 3) := by decide +kernel
theorem dX0_listeners_34 : decode cX0_listeners 34 = .ok (.aload_n 0, 1) := by decide +kernel
theorem dX0_listeners_35 : decode cX0_listeners 35 = .ok (.iload 4, 2) := by decide +kernel
theorem dX0_listeners_37 : decode cX0_listeners 37 = .ok (.invokevirtual 44, 3) := by decide +kernel
theorem dX0_listeners_40 : decode cX0_listeners 40 = .ok (.ifCond .eq 13, 3) := by decide +kernel
theorem dX0_listeners_43 : decode cX0_listeners 43 = .ok (.iload 4, 2) := by decide +kernel
theorem dX0_listeners_45 : decode cX0_listeners 45 = .ok (.iload_n 1, 1) := by decide +kernel
theorem dX0_listeners_46 : decode cX0_listeners 46 = .ok (.if_icmp .eq 7, 3) := by decide +kernel
theorem dX0_listeners_49 : decode cX0_listeners 49 = .ok (.iconst 1, 1) := by decide +kernel
theorem dX0_listeners_50 : decode cX0_listeners 50 = .ok (.goto 4, 3) := by decide +kernel
theorem dX0_listeners_53 : decode cX0_listeners 53 = .ok (.iconst 0, 1) := by decide +kernel
theorem dX0_listeners_54 : decode cX0_listeners 54 = .ok (.istore 5, 2) := by decide +kernel
theorem dX0_listeners_56 : decode cX0_listeners 56 = .ok (.iload 5, 2) := by decide +kernel
theorem dX0_listeners_58 : decode cX0_listeners 58 = .ok (.ifCond .eq 14, 3) := by decide +kernel
theorem dX0_listeners_61 : decode cX0_listeners 61 = .ok (.iconst 1, 1) := by decide +kernel
theorem dX0_listeners_62 : decode cX0_listeners 62 = .ok (.iload_n 2, 1) := by decide +kernel
theorem dX0_listeners_63 : decode cX0_listeners 63 = .ok (.ishl, 1) := by decide +kernel
theorem dX0_listeners_64 : decode cX0_listeners 64 = .ok (.iconst 1, 1) := by decide +kernel
theorem dX0_listeners_65 : decode cX0_listeners 65 = .ok (.iload 4, 2) := by decide +kernel
theorem dX0_listeners_67 : decode cX0_listeners 67 = .ok (.ishl, 1) := by decide +kernel
theorem dX0_listeners_68 : decode cX0_listeners 68 = .ok (.ior, 1) := by decide +kernel
theorem dX0_listeners_69 : decode cX0_listeners 69 = .ok (.goto 6, 3) := by decide +kernel
theorem dX0_listeners_72 : decode cX0_listeners 72 = .ok (.iconst 1, 1) := by decide +kernel
theorem dX0_listeners_73 : decode cX0_listeners 73 = .ok (.iload_n 2, 1) := by decide +kernel
theorem dX0_listeners_74 : decode cX0_listeners 74 = .ok (.ishl, 1) := by decide +kernel
theorem dX0_listeners_75 : decode cX0_listeners 75 = .ok (.ireturn, 1) := by decide +kernel
theorem dX0_length_0 : decode cX0_length 0 = .ok (.iload_n 2, 1) := by decide +kernel
theorem dX0_length_1 : decode cX0_length 1 = .ok (.ineg, 1) := by decide +kernel
theorem dX0_length_2 : decode cX0_length 2 = .ok (.istore_n 3, 1) := by decide +kernel
theorem dX0_length_3 : decode cX0_length 3 = .ok (.iconst 0, 1) := by decide +kernel
theorem dX0_length_4 : decode cX0_length 4 = .ok (.istore 4, 2) := by decide +kernel
theorem dX0_length_6 : decode cX0_length 6 = .ok (.iconst 0, 1) := by decide +kernel
theorem dX0_length_7 : decode cX0_length 7 = .ok (.istore 5, 2) := by decide +kernel
theorem dX0_length_9 : decode cX0_length 9 = .ok (.iload 5, 2) := by decide +kernel
theorem dX0_length_11 : decode cX0_length 11 = .ok (.aload_n 0, 1) := by decide +kernel
theorem dX0_length_12 : decode cX0_length 12 = .ok (.getfield 15, 3) := by decide +kernel
theorem dX0_length_15 : decode cX0_length 15 = .ok (.if_icmp .ge 50, 3) := by decide +kernel
theorem dX0_length_18 : decode cX0_length 18 = .ok (.iload 5, 2) := by decide +kernel
theorem dX0_length_20 : decode cX0_length 20 = .ok (.iload_n 1, 1) := by decide +kernel
theorem dX0_length_21 : decode cX0_length 21 = .ok (.invokestatic 52, 3) := by decide +kernel
theorem dX0_length_24 : decode cX0_length 24 = .ok (.ifCond .eq 35, 3) := by decide +kernel
theorem dX0_length_27 : decode cX0_length 27 = .ok (.iload_n 3, 1) := by decide +kernel
theorem dX0_length_28 : decode cX0_length 28 = .ok (.aload_n 0, 1) := by decide +kernel
theorem dX0_length_29 : decode cX0_length 29 = .ok (.iload 5, 2) := by decide +kernel
theorem dX0_length_31 : decode cX0_length 31 = .ok (.invokevirtual 41, 3) := by decide +kernel
theorem dX0_length_34 : decode cX0_length 34 = .ok (.invokestatic 55, 3) := by decide +kernel
theorem dX0_length_37 : decode cX0_length 37 = .ok (.iadd, 1) := by decide +kernel
theorem dX0_length_38 : decode cX0_length 38 = .ok (.istore_n 3, 1) := by decide +kernel
theorem dX0_length_39 : decode cX0_length 39 = .ok (.iload 4, 2) := by decide +kernel
theorem dX0_length_41 : decode cX0_length 41 = .ok (.aload_n 0, 1) := by decide +kernel
theorem dX0_length_42 : decode cX0_length 42 = .ok (.iload 5, 2) := by decide +kernel
theorem dX0_length_44 : decode cX0_length 44 = .ok (.invokevirtual 41, 3) := by decide +kernel
theorem dX0_length_47 : decode cX0_length 47 = .ok (.iconst 4, 1) := by decide +kernel
theorem dX0_length_48 : decode cX0_length 48 = .ok (.if_icmp .ne 7, 3) := by decide +kernel
theorem dX0_length_51 : decode cX0_length 51 = .ok (.iconst 1, 1) := by decide +kernel
theorem dX0_length_52 : decode cX0_length 52 = .ok (.goto 4, 3) := by decide +kernel
theorem dX0_length_55 : decode cX0_length 55 = .ok (.iconst 0, 1) := by decide +kernel
theorem dX0_length_56 : decode cX0_length 56 = .ok (.ior, 1) := by decide +kernel
theorem dX0_length_57 : decode cX0_length 57 = .ok (.istore 4, 2) := by decide +kernel
theorem dX0_length_59 : decode cX0_length 59 = .ok (.iinc 5 1, 3) := by decide +kernel
theorem dX0_length_62 : decode cX0_length 62 = .ok (.goto (-53), 3) := by decide +kernel
theorem dX0_length_65 : decode cX0_length 65 = .ok (.iload_n 3, 1) := by decide +kernel
theorem dX0_length_66 : decode cX0_length 66 = .ok (.iconst 0, 1) := by decide +kernel
theorem dX0_length_67 : decode cX0_length 67 = .ok (.invokestatic 58, 3) := by decide +kernel
theorem dX0_length_70 : decode cX0_length 70 = .ok (.istore 5, 2) := by decide +kernel
theorem dX0_length_72 : decode cX0_length 72 = .ok (.iload 4, 2) := by decide +kernel
theorem dX0_length_74 : decode cX0_length 74 = .ok (.ifCond .eq 8, 3) := by decide +kernel
theorem dX0_length_77 : decode cX0_length 77 = .ok (.iload 5, 2) := by decide +kernel
theorem dX0_length_79 : decode cX0_length 79 = .ok (.goto 12, 3) := by decide +kernel
theorem dX0_length_82 : decode cX0_length 82 = .ok (.iload 5, 2) := by decide +kernel
theorem dX0_length_84 : decode cX0_length 84 = .ok (.aload_n 0, 1) := by decide +kernel
theorem dX0_length_85 : decode cX0_length 85 = .ok (.getfield 19, 3) := by decide +kernel
theorem dX0_length_88 : decode cX0_length 88 = .ok (.invokestatic 28, 3) := by decide +kernel
theorem dX0_length_91 : decode cX0_length 91 = .ok (.ireturn, 1) := by decide +kernel
theorem dX0_yardsBy_0 : decode cX0_yardsBy 0 = .ok (.iload_n 0, 1) := by decide +kernel
theorem dX0_yardsBy_1 : decode cX0_yardsBy 1 = .ok (.tableswitch 35 1 4 #[31, 35, 33, 33], 31) := by decide +kernel
theorem dX0_yardsBy_32 : decode cX0_yardsBy 32 = .ok (.iconst (-1), 1) := by decide +kernel
theorem dX0_yardsBy_33 : decode cX0_yardsBy 33 = .ok (.ireturn, 1) := by decide +kernel
theorem dX0_yardsBy_34 : decode cX0_yardsBy 34 = .ok (.iconst 2, 1) := by decide +kernel
theorem dX0_yardsBy_35 : decode cX0_yardsBy 35 = .ok (.ireturn, 1) := by decide +kernel
theorem dX0_yardsBy_36 : decode cX0_yardsBy 36 = .ok (.iconst 1, 1) := by decide +kernel
theorem dX0_yardsBy_37 : decode cX0_yardsBy 37 = .ok (.ireturn, 1) := by decide +kernel
theorem dX1_init_0 : decode cX1_init 0 = .ok (.aload_n 0, 1) := by decide +kernel
theorem dX1_init_1 : decode cX1_init 1 = .ok (.invokespecial 3, 3) := by decide +kernel
theorem dX1_init_4 : decode cX1_init 4 = .ok (.aload_n 0, 1) := by decide +kernel
theorem dX1_init_5 : decode cX1_init 5 = .ok (.bipush 22, 2) := by decide +kernel
theorem dX1_init_7 : decode cX1_init 7 = .ok (.newarray .int, 2) := by decide +kernel
theorem dX1_init_9 : decode cX1_init 9 = .ok (.putfield 9, 3) := by decide +kernel
theorem dX1_init_12 : decode cX1_init 12 = .ok (.aload_n 0, 1) := by decide +kernel
theorem dX1_init_13 : decode cX1_init 13 = .ok (.iconst 0, 1) := by decide +kernel
theorem dX1_init_14 : decode cX1_init 14 = .ok (.putfield 15, 3) := by decide +kernel
theorem dX1_init_17 : decode cX1_init 17 = .ok (.return_, 1) := by decide +kernel
theorem dX1_put_0 : decode cX1_put 0 = .ok (.aload_n 0, 1) := by decide +kernel
theorem dX1_put_1 : decode cX1_put 1 = .ok (.getfield 15, 3) := by decide +kernel
theorem dX1_put_4 : decode cX1_put 4 = .ok (.ifCond .lt 15, 3) := by decide +kernel
theorem dX1_put_7 : decode cX1_put 7 = .ok (.aload_n 0, 1) := by decide +kernel
theorem dX1_put_8 : decode cX1_put 8 = .ok (.getfield 15, 3) := by decide +kernel
theorem dX1_put_11 : decode cX1_put 11 = .ok (.aload_n 0, 1) := by decide +kernel
theorem dX1_put_12 : decode cX1_put 12 = .ok (.getfield 9, 3) := by decide +kernel
theorem dX1_put_15 : decode cX1_put 15 = .ok (.arraylength, 1) := by decide +kernel
theorem dX1_put_16 : decode cX1_put 16 = .ok (.if_icmp .lt 5, 3) := by decide +kernel
theorem dX1_put_19 : decode cX1_put 19 = .ok (.iconst 0, 1) := by decide +kernel
theorem dX1_put_20 : decode cX1_put 20 = .ok (.ireturn, 1) := by decide +kernel
theorem dX1_put_21 : decode cX1_put 21 = .ok (.aload_n 0, 1) := by decide +kernel
theorem dX1_put_22 : decode cX1_put 22 = .ok (.getfield 9, 3) := by decide +kernel
theorem dX1_put_25 : decode cX1_put 25 = .ok (.aload_n 0, 1) := by decide +kernel
theorem dX1_put_26 : decode cX1_put 26 = .ok (.getfield 15, 3) := by decide +kernel
theorem dX1_put_29 : decode cX1_put 29 = .ok (.iload_n 1, 1) := by decide +kernel
theorem dX1_put_30 : decode cX1_put 30 = .ok (.iastore, 1) := by decide +kernel
theorem dX1_put_31 : decode cX1_put 31 = .ok (.aload_n 0, 1) := by decide +kernel
theorem dX1_put_32 : decode cX1_put 32 = .ok (.dup, 1) := by decide +kernel
theorem dX1_put_33 : decode cX1_put 33 = .ok (.getfield 15, 3) := by decide +kernel
theorem dX1_put_36 : decode cX1_put 36 = .ok (.iconst 1, 1) := by decide +kernel
theorem dX1_put_37 : decode cX1_put 37 = .ok (.iadd, 1) := by decide +kernel
theorem dX1_put_38 : decode cX1_put 38 = .ok (.putfield 15, 3) := by decide +kernel
theorem dX1_put_41 : decode cX1_put 41 = .ok (.iconst 1, 1) := by decide +kernel
theorem dX1_put_42 : decode cX1_put 42 = .ok (.ireturn, 1) := by decide +kernel
theorem dX1_clear_0 : decode cX1_clear 0 = .ok (.aload_n 0, 1) := by decide +kernel
theorem dX1_clear_1 : decode cX1_clear 1 = .ok (.iconst 0, 1) := by decide +kernel
theorem dX1_clear_2 : decode cX1_clear 2 = .ok (.putfield 15, 3) := by decide +kernel
theorem dX1_clear_5 : decode cX1_clear 5 = .ok (.return_, 1) := by decide +kernel
theorem dX1_firstFault_0 : decode cX1_firstFault 0 = .ok (.iconst 0, 1) := by decide +kernel
theorem dX1_firstFault_1 : decode cX1_firstFault 1 = .ok (.istore_n 1, 1) := by decide +kernel
theorem dX1_firstFault_2 : decode cX1_firstFault 2 = .ok (.iload_n 1, 1) := by decide +kernel
theorem dX1_firstFault_3 : decode cX1_firstFault 3 = .ok (.aload_n 0, 1) := by decide +kernel
theorem dX1_firstFault_4 : decode cX1_firstFault 4 = .ok (.getfield 15, 3) := by decide +kernel
theorem dX1_firstFault_7 : decode cX1_firstFault 7 = .ok (.if_icmp .ge 19, 3) := by decide +kernel
theorem dX1_firstFault_10 : decode cX1_firstFault 10 = .ok (.aload_n 0, 1) := by decide +kernel
theorem dX1_firstFault_11 : decode cX1_firstFault 11 = .ok (.iload_n 1, 1) := by decide +kernel
theorem dX1_firstFault_12 : decode cX1_firstFault 12 = .ok (.invokevirtual 19, 3) := by decide +kernel
theorem dX1_firstFault_15 : decode cX1_firstFault 15 = .ok (.ifCond .ne 5, 3) := by decide +kernel
theorem dX1_firstFault_18 : decode cX1_firstFault 18 = .ok (.iload_n 1, 1) := by decide +kernel
theorem dX1_firstFault_19 : decode cX1_firstFault 19 = .ok (.ireturn, 1) := by decide +kernel
theorem dX1_firstFault_20 : decode cX1_firstFault 20 = .ok (.iinc 1 1, 3) := by decide +kernel
theorem dX1_firstFault_23 : decode cX1_firstFault 23 = .ok (.goto (-21), 3) := by decide +kernel
theorem dX1_firstFault_26 : decode cX1_firstFault 26 = .ok (.aload_n 0, 1) := by decide +kernel
theorem dX1_firstFault_27 : decode cX1_firstFault 27 = .ok (.getfield 15, 3) := by decide +kernel
theorem dX1_firstFault_30 : decode cX1_firstFault 30 = .ok (.ireturn, 1) := by decide +kernel
theorem dX1_isHill_0 : decode cX1_isHill 0 = .ok (.aload_n 0, 1) := by decide +kernel
theorem dX1_isHill_1 : decode cX1_isHill 1 = .ok (.aload_n 0, 1) := by decide +kernel
theorem dX1_isHill_2 : decode cX1_isHill 2 = .ok (.getfield 15, 3) := by decide +kernel
theorem dX1_isHill_5 : decode cX1_isHill 5 = .ok (.iconst 2, 1) := by decide +kernel
theorem dX1_isHill_6 : decode cX1_isHill 6 = .ok (.isub, 1) := by decide +kernel
theorem dX1_isHill_7 : decode cX1_isHill 7 = .ok (.invokevirtual 23, 3) := by decide +kernel
theorem dX1_isHill_10 : decode cX1_isHill 10 = .ok (.bipush 59, 2) := by decide +kernel
theorem dX1_isHill_12 : decode cX1_isHill 12 = .ok (.if_icmp .ne 18, 3) := by decide +kernel
theorem dX1_isHill_15 : decode cX1_isHill 15 = .ok (.aload_n 0, 1) := by decide +kernel
theorem dX1_isHill_16 : decode cX1_isHill 16 = .ok (.invokevirtual 27, 3) := by decide +kernel
theorem dX1_isHill_19 : decode cX1_isHill 19 = .ok (.aload_n 0, 1) := by decide +kernel
theorem dX1_isHill_20 : decode cX1_isHill 20 = .ok (.getfield 15, 3) := by decide +kernel
theorem dX1_isHill_23 : decode cX1_isHill 23 = .ok (.if_icmp .ne 7, 3) := by decide +kernel
theorem dX1_isHill_26 : decode cX1_isHill 26 = .ok (.iconst 1, 1) := by decide +kernel
theorem dX1_isHill_27 : decode cX1_isHill 27 = .ok (.goto 4, 3) := by decide +kernel
theorem dX1_isHill_30 : decode cX1_isHill 30 = .ok (.iconst 0, 1) := by decide +kernel
theorem dX1_isHill_31 : decode cX1_isHill 31 = .ok (.ireturn, 1) := by decide +kernel
theorem dX1_peopleWritten_0 : decode cX1_peopleWritten 0 = .ok (.aload_n 0, 1) := by decide +kernel
theorem dX1_peopleWritten_1 : decode cX1_peopleWritten 1 = .ok (.getfield 15, 3) := by decide +kernel
theorem dX1_peopleWritten_4 : decode cX1_peopleWritten 4 = .ok (.iconst 3, 1) := by decide +kernel
theorem dX1_peopleWritten_5 : decode cX1_peopleWritten 5 = .ok (.idiv, 1) := by decide +kernel
theorem dX1_peopleWritten_6 : decode cX1_peopleWritten 6 = .ok (.ireturn, 1) := by decide +kernel
theorem dX1_kindWritten_0 : decode cX1_kindWritten 0 = .ok (.aload_n 0, 1) := by decide +kernel
theorem dX1_kindWritten_1 : decode cX1_kindWritten 1 = .ok (.iload_n 1, 1) := by decide +kernel
theorem dX1_kindWritten_2 : decode cX1_kindWritten 2 = .ok (.iconst 3, 1) := by decide +kernel
theorem dX1_kindWritten_3 : decode cX1_kindWritten 3 = .ok (.imul, 1) := by decide +kernel
theorem dX1_kindWritten_4 : decode cX1_kindWritten 4 = .ok (.invokevirtual 23, 3) := by decide +kernel
theorem dX1_kindWritten_7 : decode cX1_kindWritten 7 = .ok (.invokestatic 31, 3) := by decide +kernel
theorem dX1_kindWritten_10 : decode cX1_kindWritten 10 = .ok (.ireturn, 1) := by decide +kernel
theorem dX1_nextWritten_0 : decode cX1_nextWritten 0 = .ok (.aload_n 0, 1) := by decide +kernel
theorem dX1_nextWritten_1 : decode cX1_nextWritten 1 = .ok (.iload_n 1, 1) := by decide +kernel
theorem dX1_nextWritten_2 : decode cX1_nextWritten 2 = .ok (.iconst 3, 1) := by decide +kernel
theorem dX1_nextWritten_3 : decode cX1_nextWritten 3 = .ok (.imul, 1) := by decide +kernel
theorem dX1_nextWritten_4 : decode cX1_nextWritten 4 = .ok (.iconst 1, 1) := by decide +kernel
theorem dX1_nextWritten_5 : decode cX1_nextWritten 5 = .ok (.iadd, 1) := by decide +kernel
theorem dX1_nextWritten_6 : decode cX1_nextWritten 6 = .ok (.invokevirtual 23, 3) := by decide +kernel
theorem dX1_nextWritten_9 : decode cX1_nextWritten 9 = .ok (.bipush 48, 2) := by decide +kernel
theorem dX1_nextWritten_11 : decode cX1_nextWritten 11 = .ok (.isub, 1) := by decide +kernel
theorem dX1_nextWritten_12 : decode cX1_nextWritten 12 = .ok (.ireturn, 1) := by decide +kernel
theorem dX1_riverWritten_0 : decode cX1_riverWritten 0 = .ok (.aload_n 0, 1) := by decide +kernel
theorem dX1_riverWritten_1 : decode cX1_riverWritten 1 = .ok (.aload_n 0, 1) := by decide +kernel
theorem dX1_riverWritten_2 : decode cX1_riverWritten 2 = .ok (.getfield 15, 3) := by decide +kernel
theorem dX1_riverWritten_5 : decode cX1_riverWritten 5 = .ok (.iconst 1, 1) := by decide +kernel
theorem dX1_riverWritten_6 : decode cX1_riverWritten 6 = .ok (.isub, 1) := by decide +kernel
theorem dX1_riverWritten_7 : decode cX1_riverWritten 7 = .ok (.invokevirtual 23, 3) := by decide +kernel
theorem dX1_riverWritten_10 : decode cX1_riverWritten 10 = .ok (.bipush 48, 2) := by decide +kernel
theorem dX1_riverWritten_12 : decode cX1_riverWritten 12 = .ok (.isub, 1) := by decide +kernel
theorem dX1_riverWritten_13 : decode cX1_riverWritten 13 = .ok (.ireturn, 1) := by decide +kernel
theorem dX1_codeAt_0 : decode cX1_codeAt 0 = .ok (.iload_n 1, 1) := by decide +kernel
theorem dX1_codeAt_1 : decode cX1_codeAt 1 = .ok (.ifCond .lt 29, 3) := by decide +kernel
theorem dX1_codeAt_4 : decode cX1_codeAt 4 = .ok (.iload_n 1, 1) := by decide +kernel
theorem dX1_codeAt_5 : decode cX1_codeAt 5 = .ok (.aload_n 0, 1) := by decide +kernel
theorem dX1_codeAt_6 : decode cX1_codeAt 6 = .ok (.getfield 15, 3) := by decide +kernel
theorem dX1_codeAt_9 : decode cX1_codeAt 9 = .ok (.if_icmp .ge 21, 3) := by decide +kernel
theorem dX1_codeAt_12 : decode cX1_codeAt 12 = .ok (.iload_n 1, 1) := by decide +kernel
theorem dX1_codeAt_13 : decode cX1_codeAt 13 = .ok (.aload_n 0, 1) := by decide +kernel
theorem dX1_codeAt_14 : decode cX1_codeAt 14 = .ok (.getfield 9, 3) := by decide +kernel
theorem dX1_codeAt_17 : decode cX1_codeAt 17 = .ok (.arraylength, 1) := by decide +kernel
theorem dX1_codeAt_18 : decode cX1_codeAt 18 = .ok (.if_icmp .ge 12, 3) := by decide +kernel
theorem dX1_codeAt_21 : decode cX1_codeAt 21 = .ok (.aload_n 0, 1) := by decide +kernel
theorem dX1_codeAt_22 : decode cX1_codeAt 22 = .ok (.getfield 9, 3) := by decide +kernel
theorem dX1_codeAt_25 : decode cX1_codeAt 25 = .ok (.iload_n 1, 1) := by decide +kernel
theorem dX1_codeAt_26 : decode cX1_codeAt 26 = .ok (.iaload, 1) := by decide +kernel
theorem dX1_codeAt_27 : decode cX1_codeAt 27 = .ok (.goto 4, 3) := by decide +kernel
theorem dX1_codeAt_30 : decode cX1_codeAt 30 = .ok (.iconst 0, 1) := by decide +kernel
theorem dX1_codeAt_31 : decode cX1_codeAt 31 = .ok (.ireturn, 1) := by decide +kernel
theorem dX1_fits_0 : decode cX1_fits 0 = .ok (.aload_n 0, 1) := by decide +kernel
theorem dX1_fits_1 : decode cX1_fits 1 = .ok (.iload_n 1, 1) := by decide +kernel
theorem dX1_fits_2 : decode cX1_fits 2 = .ok (.invokevirtual 23, 3) := by decide +kernel
theorem dX1_fits_5 : decode cX1_fits 5 = .ok (.istore_n 2, 1) := by decide +kernel
theorem dX1_fits_6 : decode cX1_fits 6 = .ok (.iload_n 1, 1) := by decide +kernel
theorem dX1_fits_7 : decode cX1_fits 7 = .ok (.iconst 3, 1) := by decide +kernel
theorem dX1_fits_8 : decode cX1_fits 8 = .ok (.idiv, 1) := by decide +kernel
theorem dX1_fits_9 : decode cX1_fits 9 = .ok (.istore_n 3, 1) := by decide +kernel
theorem dX1_fits_10 : decode cX1_fits 10 = .ok (.iload_n 1, 1) := by decide +kernel
theorem dX1_fits_11 : decode cX1_fits 11 = .ok (.iconst 3, 1) := by decide +kernel
theorem dX1_fits_12 : decode cX1_fits 12 = .ok (.irem, 1) := by decide +kernel
theorem dX1_fits_13 : decode cX1_fits 13 = .ok (.lookupswitch 103 #[(0, 27), (1, 73)], 27) := by decide +kernel
theorem dX1_fits_40 : decode cX1_fits 40 = .ok (.aload_n 0, 1) := by decide +kernel
theorem dX1_fits_41 : decode cX1_fits 41 = .ok (.iload_n 1, 1) := by decide +kernel
theorem dX1_fits_42 : decode cX1_fits 42 = .ok (.iconst 1, 1) := by decide +kernel
theorem dX1_fits_43 : decode cX1_fits 43 = .ok (.isub, 1) := by decide +kernel
theorem dX1_fits_44 : decode cX1_fits 44 = .ok (.invokevirtual 23, 3) := by decide +kernel
theorem dX1_fits_47 : decode cX1_fits 47 = .ok (.bipush 59, 2) := by decide +kernel
theorem dX1_fits_49 : decode cX1_fits 49 = .ok (.if_icmp .ne 23, 3) := by decide +kernel
theorem dX1_fits_52 : decode cX1_fits 52 = .ok (.iload_n 2, 1) := by decide +kernel
theorem dX1_fits_53 : decode cX1_fits 53 = .ok (.bipush 49, 2) := by decide +kernel
theorem dX1_fits_55 : decode cX1_fits 55 = .ok (.if_icmp .lt 13, 3) := by decide +kernel
theorem dX1_fits_58 : decode cX1_fits 58 = .ok (.iload_n 2, 1) := by decide +kernel
theorem dX1_fits_59 : decode cX1_fits 59 = .ok (.bipush 57, 2) := by decide +kernel
theorem dX1_fits_61 : decode cX1_fits 61 = .ok (.if_icmp .gt 7, 3) := by decide +kernel
theorem dX1_fits_64 : decode cX1_fits 64 = .ok (.iconst 1, 1) := by decide +kernel
theorem dX1_fits_65 : decode cX1_fits 65 = .ok (.goto 20, 3) := by decide +kernel
theorem dX1_fits_68 : decode cX1_fits 68 = .ok (.iconst 0, 1) := by decide +kernel
theorem dX1_fits_69 : decode cX1_fits 69 = .ok (.goto 16, 3) := by decide +kernel
theorem dX1_fits_72 : decode cX1_fits 72 = .ok (.iload_n 2, 1) := by decide +kernel
theorem dX1_fits_73 : decode cX1_fits 73 = .ok (.invokestatic 31, 3) := by decide +kernel
theorem dX1_fits_76 : decode cX1_fits 76 = .ok (.iconst (-1), 1) := by decide +kernel
theorem dX1_fits_77 : decode cX1_fits 77 = .ok (.if_icmp .eq 7, 3) := by decide +kernel
theorem dX1_fits_80 : decode cX1_fits 80 = .ok (.iconst 1, 1) := by decide +kernel
theorem dX1_fits_81 : decode cX1_fits 81 = .ok (.goto 4, 3) := by decide +kernel
theorem dX1_fits_84 : decode cX1_fits 84 = .ok (.iconst 0, 1) := by decide +kernel
theorem dX1_fits_85 : decode cX1_fits 85 = .ok (.ireturn, 1) := by decide +kernel
theorem dX1_fits_86 : decode cX1_fits 86 = .ok (.aload_n 0, 1) := by decide +kernel
theorem dX1_fits_87 : decode cX1_fits 87 = .ok (.iload_n 1, 1) := by decide +kernel
theorem dX1_fits_88 : decode cX1_fits 88 = .ok (.iconst 2, 1) := by decide +kernel
theorem dX1_fits_89 : decode cX1_fits 89 = .ok (.isub, 1) := by decide +kernel
theorem dX1_fits_90 : decode cX1_fits 90 = .ok (.invokevirtual 23, 3) := by decide +kernel
theorem dX1_fits_93 : decode cX1_fits 93 = .ok (.bipush 59, 2) := by decide +kernel
theorem dX1_fits_95 : decode cX1_fits 95 = .ok (.if_icmp .eq 19, 3) := by decide +kernel
theorem dX1_fits_98 : decode cX1_fits 98 = .ok (.iload_n 2, 1) := by decide +kernel
theorem dX1_fits_99 : decode cX1_fits 99 = .ok (.bipush 48, 2) := by decide +kernel
theorem dX1_fits_101 : decode cX1_fits 101 = .ok (.if_icmp .lt 13, 3) := by decide +kernel
theorem dX1_fits_104 : decode cX1_fits 104 = .ok (.iload_n 2, 1) := by decide +kernel
theorem dX1_fits_105 : decode cX1_fits 105 = .ok (.bipush 57, 2) := by decide +kernel
theorem dX1_fits_107 : decode cX1_fits 107 = .ok (.if_icmp .gt 7, 3) := by decide +kernel
theorem dX1_fits_110 : decode cX1_fits 110 = .ok (.iconst 1, 1) := by decide +kernel
theorem dX1_fits_111 : decode cX1_fits 111 = .ok (.goto 4, 3) := by decide +kernel
theorem dX1_fits_114 : decode cX1_fits 114 = .ok (.iconst 0, 1) := by decide +kernel
theorem dX1_fits_115 : decode cX1_fits 115 = .ok (.ireturn, 1) := by decide +kernel
theorem dX1_fits_116 : decode cX1_fits 116 = .ok (.iload_n 2, 1) := by decide +kernel
theorem dX1_fits_117 : decode cX1_fits 117 = .ok (.bipush 44, 2) := by decide +kernel
theorem dX1_fits_119 : decode cX1_fits 119 = .ok (.if_icmp .ne 11, 3) := by decide +kernel
theorem dX1_fits_122 : decode cX1_fits 122 = .ok (.iload_n 3, 1) := by decide +kernel
theorem dX1_fits_123 : decode cX1_fits 123 = .ok (.iconst 1, 1) := by decide +kernel
theorem dX1_fits_124 : decode cX1_fits 124 = .ok (.iadd, 1) := by decide +kernel
theorem dX1_fits_125 : decode cX1_fits 125 = .ok (.bipush 6, 2) := by decide +kernel
theorem dX1_fits_127 : decode cX1_fits 127 = .ok (.if_icmp .lt 16, 3) := by decide +kernel
theorem dX1_fits_130 : decode cX1_fits 130 = .ok (.iload_n 2, 1) := by decide +kernel
theorem dX1_fits_131 : decode cX1_fits 131 = .ok (.bipush 59, 2) := by decide +kernel
theorem dX1_fits_133 : decode cX1_fits 133 = .ok (.if_icmp .ne 14, 3) := by decide +kernel
theorem dX1_fits_136 : decode cX1_fits 136 = .ok (.iload_n 3, 1) := by decide +kernel
theorem dX1_fits_137 : decode cX1_fits 137 = .ok (.iconst 1, 1) := by decide +kernel
theorem dX1_fits_138 : decode cX1_fits 138 = .ok (.iadd, 1) := by decide +kernel
theorem dX1_fits_139 : decode cX1_fits 139 = .ok (.iconst 2, 1) := by decide +kernel
theorem dX1_fits_140 : decode cX1_fits 140 = .ok (.if_icmp .lt 7, 3) := by decide +kernel
theorem dX1_fits_143 : decode cX1_fits 143 = .ok (.iconst 1, 1) := by decide +kernel
theorem dX1_fits_144 : decode cX1_fits 144 = .ok (.goto 4, 3) := by decide +kernel
theorem dX1_fits_147 : decode cX1_fits 147 = .ok (.iconst 0, 1) := by decide +kernel
theorem dX1_fits_148 : decode cX1_fits 148 = .ok (.ireturn, 1) := by decide +kernel
theorem dX1_kindOfLetter_0 : decode cX1_kindOfLetter 0 = .ok (.ldc 34, 2) := by decide +kernel
theorem dX1_kindOfLetter_2 : decode cX1_kindOfLetter 2 = .ok (.iload_n 0, 1) := by decide +kernel
theorem dX1_kindOfLetter_3 : decode cX1_kindOfLetter 3 = .ok (.i2c, 1) := by decide +kernel
theorem dX1_kindOfLetter_4 : decode cX1_kindOfLetter 4 = .ok (.invokevirtual 36, 3) := by decide +kernel
theorem dX1_kindOfLetter_7 : decode cX1_kindOfLetter 7 = .ok (.ireturn, 1) := by decide +kernel
theorem dX2_init_0 : decode cX2_init 0 = .ok (.aload_n 0, 1) := by decide +kernel
theorem dX2_init_1 : decode cX2_init 1 = .ok (.invokespecial 3, 3) := by decide +kernel
theorem dX2_init_4 : decode cX2_init 4 = .ok (.aload_n 0, 1) := by decide +kernel
theorem dX2_init_5 : decode cX2_init 5 = .ok (.bipush 6, 2) := by decide +kernel
theorem dX2_init_7 : decode cX2_init 7 = .ok (.newarray .int, 2) := by decide +kernel
theorem dX2_init_9 : decode cX2_init 9 = .ok (.putfield 9, 3) := by decide +kernel
theorem dX2_init_12 : decode cX2_init 12 = .ok (.aload_n 0, 1) := by decide +kernel
theorem dX2_init_13 : decode cX2_init 13 = .ok (.bipush 6, 2) := by decide +kernel
theorem dX2_init_15 : decode cX2_init 15 = .ok (.newarray .int, 2) := by decide +kernel
theorem dX2_init_17 : decode cX2_init 17 = .ok (.putfield 15, 3) := by decide +kernel
theorem dX2_init_20 : decode cX2_init 20 = .ok (.aload_n 0, 1) := by decide +kernel
theorem dX2_init_21 : decode cX2_init 21 = .ok (.iconst 3, 1) := by decide +kernel
theorem dX2_init_22 : decode cX2_init 22 = .ok (.newarray .int, 2) := by decide +kernel
theorem dX2_init_24 : decode cX2_init 24 = .ok (.putfield 18, 3) := by decide +kernel
theorem dX2_init_27 : decode cX2_init 27 = .ok (.aload_n 0, 1) := by decide +kernel
theorem dX2_init_28 : decode cX2_init 28 = .ok (.iconst 3, 1) := by decide +kernel
theorem dX2_init_29 : decode cX2_init 29 = .ok (.newarray .int, 2) := by decide +kernel
theorem dX2_init_31 : decode cX2_init 31 = .ok (.putfield 21, 3) := by decide +kernel
theorem dX2_init_34 : decode cX2_init 34 = .ok (.aload_n 0, 1) := by decide +kernel
theorem dX2_init_35 : decode cX2_init 35 = .ok (.iconst 3, 1) := by decide +kernel
theorem dX2_init_36 : decode cX2_init 36 = .ok (.newarray .int, 2) := by decide +kernel
theorem dX2_init_38 : decode cX2_init 38 = .ok (.putfield 24, 3) := by decide +kernel
theorem dX2_init_41 : decode cX2_init 41 = .ok (.aload_n 0, 1) := by decide +kernel
theorem dX2_init_42 : decode cX2_init 42 = .ok (.bipush 8, 2) := by decide +kernel
theorem dX2_init_44 : decode cX2_init 44 = .ok (.newarray .int, 2) := by decide +kernel
theorem dX2_init_46 : decode cX2_init 46 = .ok (.putfield 27, 3) := by decide +kernel
theorem dX2_init_49 : decode cX2_init 49 = .ok (.aload_n 0, 1) := by decide +kernel
theorem dX2_init_50 : decode cX2_init 50 = .ok (.bipush 8, 2) := by decide +kernel
theorem dX2_init_52 : decode cX2_init 52 = .ok (.newarray .int, 2) := by decide +kernel
theorem dX2_init_54 : decode cX2_init 54 = .ok (.putfield 30, 3) := by decide +kernel
theorem dX2_init_57 : decode cX2_init 57 = .ok (.aload_n 0, 1) := by decide +kernel
theorem dX2_init_58 : decode cX2_init 58 = .ok (.iconst 0, 1) := by decide +kernel
theorem dX2_init_59 : decode cX2_init 59 = .ok (.putfield 33, 3) := by decide +kernel
theorem dX2_init_62 : decode cX2_init 62 = .ok (.aload_n 0, 1) := by decide +kernel
theorem dX2_init_63 : decode cX2_init 63 = .ok (.iconst 0, 1) := by decide +kernel
theorem dX2_init_64 : decode cX2_init 64 = .ok (.putfield 37, 3) := by decide +kernel
theorem dX2_init_67 : decode cX2_init 67 = .ok (.aload_n 0, 1) := by decide +kernel
theorem dX2_init_68 : decode cX2_init 68 = .ok (.iconst 0, 1) := by decide +kernel
theorem dX2_init_69 : decode cX2_init 69 = .ok (.putfield 40, 3) := by decide +kernel
theorem dX2_init_72 : decode cX2_init 72 = .ok (.return_, 1) := by decide +kernel
theorem dX2_begin_0 : decode cX2_begin 0 = .ok (.iconst 0, 1) := by decide +kernel
theorem dX2_begin_1 : decode cX2_begin 1 = .ok (.istore_n 1, 1) := by decide +kernel
theorem dX2_begin_2 : decode cX2_begin 2 = .ok (.iload_n 1, 1) := by decide +kernel
theorem dX2_begin_3 : decode cX2_begin 3 = .ok (.bipush 6, 2) := by decide +kernel
theorem dX2_begin_5 : decode cX2_begin 5 = .ok (.if_icmp .ge 16, 3) := by decide +kernel
theorem dX2_begin_8 : decode cX2_begin 8 = .ok (.aload_n 0, 1) := by decide +kernel
theorem dX2_begin_9 : decode cX2_begin 9 = .ok (.iload_n 1, 1) := by decide +kernel
theorem dX2_begin_10 : decode cX2_begin 10 = .ok (.iconst (-1), 1) := by decide +kernel
theorem dX2_begin_11 : decode cX2_begin 11 = .ok (.iconst 0, 1) := by decide +kernel
theorem dX2_begin_12 : decode cX2_begin 12 = .ok (.invokevirtual 43, 3) := by decide +kernel
theorem dX2_begin_15 : decode cX2_begin 15 = .ok (.iinc 1 1, 3) := by decide +kernel
theorem dX2_begin_18 : decode cX2_begin 18 = .ok (.goto (-16), 3) := by decide +kernel
theorem dX2_begin_21 : decode cX2_begin 21 = .ok (.iconst 0, 1) := by decide +kernel
theorem dX2_begin_22 : decode cX2_begin 22 = .ok (.istore_n 1, 1) := by decide +kernel
theorem dX2_begin_23 : decode cX2_begin 23 = .ok (.iload_n 1, 1) := by decide +kernel
theorem dX2_begin_24 : decode cX2_begin 24 = .ok (.iconst 3, 1) := by decide +kernel
theorem dX2_begin_25 : decode cX2_begin 25 = .ok (.if_icmp .ge 30, 3) := by decide +kernel
theorem dX2_begin_28 : decode cX2_begin 28 = .ok (.aload_n 0, 1) := by decide +kernel
theorem dX2_begin_29 : decode cX2_begin 29 = .ok (.getfield 18, 3) := by decide +kernel
theorem dX2_begin_32 : decode cX2_begin 32 = .ok (.iload_n 1, 1) := by decide +kernel
theorem dX2_begin_33 : decode cX2_begin 33 = .ok (.iconst 0, 1) := by decide +kernel
theorem dX2_begin_34 : decode cX2_begin 34 = .ok (.iastore, 1) := by decide +kernel
theorem dX2_begin_35 : decode cX2_begin 35 = .ok (.aload_n 0, 1) := by decide +kernel
theorem dX2_begin_36 : decode cX2_begin 36 = .ok (.getfield 21, 3) := by decide +kernel
theorem dX2_begin_39 : decode cX2_begin 39 = .ok (.iload_n 1, 1) := by decide +kernel
theorem dX2_begin_40 : decode cX2_begin 40 = .ok (.iconst 0, 1) := by decide +kernel
theorem dX2_begin_41 : decode cX2_begin 41 = .ok (.iastore, 1) := by decide +kernel
theorem dX2_begin_42 : decode cX2_begin 42 = .ok (.aload_n 0, 1) := by decide +kernel
theorem dX2_begin_43 : decode cX2_begin 43 = .ok (.getfield 24, 3) := by decide +kernel
theorem dX2_begin_46 : decode cX2_begin 46 = .ok (.iload_n 1, 1) := by decide +kernel
theorem dX2_begin_47 : decode cX2_begin 47 = .ok (.iconst 0, 1) := by decide +kernel
theorem dX2_begin_48 : decode cX2_begin 48 = .ok (.iastore, 1) := by decide +kernel
theorem dX2_begin_49 : decode cX2_begin 49 = .ok (.iinc 1 1, 3) := by decide +kernel
theorem dX2_begin_52 : decode cX2_begin 52 = .ok (.goto (-29), 3) := by decide +kernel
theorem dX2_begin_55 : decode cX2_begin 55 = .ok (.aload_n 0, 1) := by decide +kernel
theorem dX2_begin_56 : decode cX2_begin 56 = .ok (.iconst 0, 1) := by decide +kernel
theorem dX2_begin_57 : decode cX2_begin 57 = .ok (.putfield 33, 3) := by decide +kernel
theorem dX2_begin_60 : decode cX2_begin 60 = .ok (.aload_n 0, 1) := by decide +kernel
theorem dX2_begin_61 : decode cX2_begin 61 = .ok (.iconst 0, 1) := by decide +kernel
theorem dX2_begin_62 : decode cX2_begin 62 = .ok (.putfield 37, 3) := by decide +kernel
theorem dX2_begin_65 : decode cX2_begin 65 = .ok (.aload_n 0, 1) := by decide +kernel
theorem dX2_begin_66 : decode cX2_begin 66 = .ok (.iconst 0, 1) := by decide +kernel
theorem dX2_begin_67 : decode cX2_begin 67 = .ok (.putfield 40, 3) := by decide +kernel
theorem dX2_begin_70 : decode cX2_begin 70 = .ok (.return_, 1) := by decide +kernel
theorem dX2_copy_0 : decode cX2_copy 0 = .ok (.aload_n 1, 1) := by decide +kernel
theorem dX2_copy_1 : decode cX2_copy 1 = .ok (.getfield 9, 3) := by decide +kernel
theorem dX2_copy_4 : decode cX2_copy 4 = .ok (.iconst 0, 1) := by decide +kernel
theorem dX2_copy_5 : decode cX2_copy 5 = .ok (.aload_n 0, 1) := by decide +kernel
theorem dX2_copy_6 : decode cX2_copy 6 = .ok (.getfield 9, 3) := by decide +kernel
theorem dX2_copy_9 : decode cX2_copy 9 = .ok (.iconst 0, 1) := by decide +kernel
theorem dX2_copy_10 : decode cX2_copy 10 = .ok (.bipush 6, 2) := by decide +kernel
theorem dX2_copy_12 : decode cX2_copy 12 = .ok (.invokestatic 47, 3) := by decide +kernel
theorem dX2_copy_15 : decode cX2_copy 15 = .ok (.aload_n 1, 1) := by decide +kernel
theorem dX2_copy_16 : decode cX2_copy 16 = .ok (.getfield 15, 3) := by decide +kernel
theorem dX2_copy_19 : decode cX2_copy 19 = .ok (.iconst 0, 1) := by decide +kernel
theorem dX2_copy_20 : decode cX2_copy 20 = .ok (.aload_n 0, 1) := by decide +kernel
theorem dX2_copy_21 : decode cX2_copy 21 = .ok (.getfield 15, 3) := by decide +kernel
theorem dX2_copy_24 : decode cX2_copy 24 = .ok (.iconst 0, 1) := by decide +kernel
theorem dX2_copy_25 : decode cX2_copy 25 = .ok (.bipush 6, 2) := by decide +kernel
theorem dX2_copy_27 : decode cX2_copy 27 = .ok (.invokestatic 47, 3) := by decide +kernel
theorem dX2_copy_30 : decode cX2_copy 30 = .ok (.aload_n 1, 1) := by decide +kernel
theorem dX2_copy_31 : decode cX2_copy 31 = .ok (.getfield 18, 3) := by decide +kernel
theorem dX2_copy_34 : decode cX2_copy 34 = .ok (.iconst 0, 1) := by decide +kernel
theorem dX2_copy_35 : decode cX2_copy 35 = .ok (.aload_n 0, 1) := by decide +kernel
theorem dX2_copy_36 : decode cX2_copy 36 = .ok (.getfield 18, 3) := by decide +kernel
theorem dX2_copy_39 : decode cX2_copy 39 = .ok (.iconst 0, 1) := by decide +kernel
theorem dX2_copy_40 : decode cX2_copy 40 = .ok (.iconst 3, 1) := by decide +kernel
theorem dX2_copy_41 : decode cX2_copy 41 = .ok (.invokestatic 47, 3) := by decide +kernel
theorem dX2_copy_44 : decode cX2_copy 44 = .ok (.aload_n 1, 1) := by decide +kernel
theorem dX2_copy_45 : decode cX2_copy 45 = .ok (.getfield 21, 3) := by decide +kernel
theorem dX2_copy_48 : decode cX2_copy 48 = .ok (.iconst 0, 1) := by decide +kernel
theorem dX2_copy_49 : decode cX2_copy 49 = .ok (.aload_n 0, 1) := by decide +kernel
theorem dX2_copy_50 : decode cX2_copy 50 = .ok (.getfield 21, 3) := by decide +kernel
theorem dX2_copy_53 : decode cX2_copy 53 = .ok (.iconst 0, 1) := by decide +kernel
theorem dX2_copy_54 : decode cX2_copy 54 = .ok (.iconst 3, 1) := by decide +kernel
theorem dX2_copy_55 : decode cX2_copy 55 = .ok (.invokestatic 47, 3) := by decide +kernel
theorem dX2_copy_58 : decode cX2_copy 58 = .ok (.aload_n 1, 1) := by decide +kernel
theorem dX2_copy_59 : decode cX2_copy 59 = .ok (.getfield 24, 3) := by decide +kernel
theorem dX2_copy_62 : decode cX2_copy 62 = .ok (.iconst 0, 1) := by decide +kernel
theorem dX2_copy_63 : decode cX2_copy 63 = .ok (.aload_n 0, 1) := by decide +kernel
theorem dX2_copy_64 : decode cX2_copy 64 = .ok (.getfield 24, 3) := by decide +kernel
theorem dX2_copy_67 : decode cX2_copy 67 = .ok (.iconst 0, 1) := by decide +kernel
theorem dX2_copy_68 : decode cX2_copy 68 = .ok (.iconst 3, 1) := by decide +kernel
theorem dX2_copy_69 : decode cX2_copy 69 = .ok (.invokestatic 47, 3) := by decide +kernel
theorem dX2_copy_72 : decode cX2_copy 72 = .ok (.aload_n 1, 1) := by decide +kernel
theorem dX2_copy_73 : decode cX2_copy 73 = .ok (.getfield 27, 3) := by decide +kernel
theorem dX2_copy_76 : decode cX2_copy 76 = .ok (.iconst 0, 1) := by decide +kernel
theorem dX2_copy_77 : decode cX2_copy 77 = .ok (.aload_n 0, 1) := by decide +kernel
theorem dX2_copy_78 : decode cX2_copy 78 = .ok (.getfield 27, 3) := by decide +kernel
theorem dX2_copy_81 : decode cX2_copy 81 = .ok (.iconst 0, 1) := by decide +kernel
theorem dX2_copy_82 : decode cX2_copy 82 = .ok (.bipush 8, 2) := by decide +kernel
theorem dX2_copy_84 : decode cX2_copy 84 = .ok (.invokestatic 47, 3) := by decide +kernel
theorem dX2_copy_87 : decode cX2_copy 87 = .ok (.aload_n 1, 1) := by decide +kernel
theorem dX2_copy_88 : decode cX2_copy 88 = .ok (.getfield 30, 3) := by decide +kernel
theorem dX2_copy_91 : decode cX2_copy 91 = .ok (.iconst 0, 1) := by decide +kernel
theorem dX2_copy_92 : decode cX2_copy 92 = .ok (.aload_n 0, 1) := by decide +kernel
theorem dX2_copy_93 : decode cX2_copy 93 = .ok (.getfield 30, 3) := by decide +kernel
theorem dX2_copy_96 : decode cX2_copy 96 = .ok (.iconst 0, 1) := by decide +kernel
theorem dX2_copy_97 : decode cX2_copy 97 = .ok (.bipush 8, 2) := by decide +kernel
theorem dX2_copy_99 : decode cX2_copy 99 = .ok (.invokestatic 47, 3) := by decide +kernel
theorem dX2_copy_102 : decode cX2_copy 102 = .ok (.aload_n 0, 1) := by decide +kernel
theorem dX2_copy_103 : decode cX2_copy 103 = .ok (.aload_n 1, 1) := by decide +kernel
theorem dX2_copy_104 : decode cX2_copy 104 = .ok (.getfield 33, 3) := by decide +kernel
theorem dX2_copy_107 : decode cX2_copy 107 = .ok (.putfield 33, 3) := by decide +kernel
theorem dX2_copy_110 : decode cX2_copy 110 = .ok (.aload_n 0, 1) := by decide +kernel
theorem dX2_copy_111 : decode cX2_copy 111 = .ok (.aload_n 1, 1) := by decide +kernel
theorem dX2_copy_112 : decode cX2_copy 112 = .ok (.getfield 37, 3) := by decide +kernel
theorem dX2_copy_115 : decode cX2_copy 115 = .ok (.putfield 37, 3) := by decide +kernel
theorem dX2_copy_118 : decode cX2_copy 118 = .ok (.aload_n 0, 1) := by decide +kernel
theorem dX2_copy_119 : decode cX2_copy 119 = .ok (.aload_n 1, 1) := by decide +kernel
theorem dX2_copy_120 : decode cX2_copy 120 = .ok (.getfield 40, 3) := by decide +kernel
theorem dX2_copy_123 : decode cX2_copy 123 = .ok (.putfield 40, 3) := by decide +kernel
theorem dX2_copy_126 : decode cX2_copy 126 = .ok (.return_, 1) := by decide +kernel
theorem dX2_nextOf_0 : decode cX2_nextOf 0 = .ok (.iload_n 1, 1) := by decide +kernel
theorem dX2_nextOf_1 : decode cX2_nextOf 1 = .ok (.ifCond .lt 21, 3) := by decide +kernel
theorem dX2_nextOf_4 : decode cX2_nextOf 4 = .ok (.iload_n 1, 1) := by decide +kernel
theorem dX2_nextOf_5 : decode cX2_nextOf 5 = .ok (.aload_n 0, 1) := by decide +kernel
theorem dX2_nextOf_6 : decode cX2_nextOf 6 = .ok (.getfield 9, 3) := by decide +kernel
theorem dX2_nextOf_9 : decode cX2_nextOf 9 = .ok (.arraylength, 1) := by decide +kernel
theorem dX2_nextOf_10 : decode cX2_nextOf 10 = .ok (.if_icmp .ge 12, 3) := by decide +kernel
theorem dX2_nextOf_13 : decode cX2_nextOf 13 = .ok (.aload_n 0, 1) := by decide +kernel
theorem dX2_nextOf_14 : decode cX2_nextOf 14 = .ok (.getfield 9, 3) := by decide +kernel
theorem dX2_nextOf_17 : decode cX2_nextOf 17 = .ok (.iload_n 1, 1) := by decide +kernel
theorem dX2_nextOf_18 : decode cX2_nextOf 18 = .ok (.iaload, 1) := by decide +kernel
theorem dX2_nextOf_19 : decode cX2_nextOf 19 = .ok (.goto 4, 3) := by decide +kernel
theorem dX2_nextOf_22 : decode cX2_nextOf 22 = .ok (.iconst (-1), 1) := by decide +kernel
theorem dX2_nextOf_23 : decode cX2_nextOf 23 = .ok (.ireturn, 1) := by decide +kernel
theorem dX2_listenersOf_0 : decode cX2_listenersOf 0 = .ok (.iload_n 1, 1) := by decide +kernel
theorem dX2_listenersOf_1 : decode cX2_listenersOf 1 = .ok (.ifCond .lt 21, 3) := by decide +kernel
theorem dX2_listenersOf_4 : decode cX2_listenersOf 4 = .ok (.iload_n 1, 1) := by decide +kernel
theorem dX2_listenersOf_5 : decode cX2_listenersOf 5 = .ok (.aload_n 0, 1) := by decide +kernel
theorem dX2_listenersOf_6 : decode cX2_listenersOf 6 = .ok (.getfield 15, 3) := by decide +kernel
theorem dX2_listenersOf_9 : decode cX2_listenersOf 9 = .ok (.arraylength, 1) := by decide +kernel
theorem dX2_listenersOf_10 : decode cX2_listenersOf 10 = .ok (.if_icmp .ge 12, 3) := by decide +kernel
theorem dX2_listenersOf_13 : decode cX2_listenersOf 13 = .ok (.aload_n 0, 1) := by decide +kernel
theorem dX2_listenersOf_14 : decode cX2_listenersOf 14 = .ok (.getfield 15, 3) := by decide +kernel
theorem dX2_listenersOf_17 : decode cX2_listenersOf 17 = .ok (.iload_n 1, 1) := by decide +kernel
theorem dX2_listenersOf_18 : decode cX2_listenersOf 18 = .ok (.iaload, 1) := by decide +kernel
theorem dX2_listenersOf_19 : decode cX2_listenersOf 19 = .ok (.goto 4, 3) := by decide +kernel
theorem dX2_listenersOf_22 : decode cX2_listenersOf 22 = .ok (.iconst 0, 1) := by decide +kernel
theorem dX2_listenersOf_23 : decode cX2_listenersOf 23 = .ok (.ireturn, 1) := by decide +kernel
theorem dX2_setNext_0 : decode cX2_setNext 0 = .ok (.iload_n 1, 1) := by decide +kernel
theorem dX2_setNext_1 : decode cX2_setNext 1 = .ok (.ifCond .lt 35, 3) := by decide +kernel
theorem dX2_setNext_4 : decode cX2_setNext 4 = .ok (.iload_n 1, 1) := by decide +kernel
theorem dX2_setNext_5 : decode cX2_setNext 5 = .ok (.aload_n 0, 1) := by decide +kernel
theorem dX2_setNext_6 : decode cX2_setNext 6 = .ok (.getfield 9, 3) := by decide +kernel
theorem dX2_setNext_9 : decode cX2_setNext 9 = .ok (.arraylength, 1) := by decide +kernel
theorem dX2_setNext_10 : decode cX2_setNext 10 = .ok (.if_icmp .ge 26, 3) := by decide +kernel
theorem dX2_setNext_13 : decode cX2_setNext 13 = .ok (.iload_n 1, 1) := by decide +kernel
theorem dX2_setNext_14 : decode cX2_setNext 14 = .ok (.aload_n 0, 1) := by decide +kernel
theorem dX2_setNext_15 : decode cX2_setNext 15 = .ok (.getfield 15, 3) := by decide +kernel
theorem dX2_setNext_18 : decode cX2_setNext 18 = .ok (.arraylength, 1) := by decide +kernel
theorem dX2_setNext_19 : decode cX2_setNext 19 = .ok (.if_icmp .ge 17, 3) := by decide +kernel
theorem dX2_setNext_22 : decode cX2_setNext 22 = .ok (.aload_n 0, 1) := by decide +kernel
theorem dX2_setNext_23 : decode cX2_setNext 23 = .ok (.getfield 9, 3) := by decide +kernel
theorem dX2_setNext_26 : decode cX2_setNext 26 = .ok (.iload_n 1, 1) := by decide +kernel
theorem dX2_setNext_27 : decode cX2_setNext 27 = .ok (.iload_n 2, 1) := by decide +kernel
theorem dX2_setNext_28 : decode cX2_setNext 28 = .ok (.iastore, 1) := by decide +kernel
theorem dX2_setNext_29 : decode cX2_setNext 29 = .ok (.aload_n 0, 1) := by decide +kernel
theorem dX2_setNext_30 : decode cX2_setNext 30 = .ok (.getfield 15, 3) := by decide +kernel
theorem dX2_setNext_33 : decode cX2_setNext 33 = .ok (.iload_n 1, 1) := by decide +kernel
theorem dX2_setNext_34 : decode cX2_setNext 34 = .ok (.iload_n 3, 1) := by decide +kernel
theorem dX2_setNext_35 : decode cX2_setNext 35 = .ok (.iastore, 1) := by decide +kernel
theorem dX2_setNext_36 : decode cX2_setNext 36 = .ok (.return_, 1) := by decide +kernel
theorem dX2_tunnelsHeardBy_0 : decode cX2_tunnelsHeardBy 0 = .ok (.iconst 0, 1) := by decide +kernel
theorem dX2_tunnelsHeardBy_1 : decode cX2_tunnelsHeardBy 1 = .ok (.istore_n 2, 1) := by decide +kernel
theorem dX2_tunnelsHeardBy_2 : decode cX2_tunnelsHeardBy 2 = .ok (.iconst 0, 1) := by decide +kernel
theorem dX2_tunnelsHeardBy_3 : decode cX2_tunnelsHeardBy 3 = .ok (.istore_n 3, 1) := by decide +kernel
theorem dX2_tunnelsHeardBy_4 : decode cX2_tunnelsHeardBy 4 = .ok (.iload_n 3, 1) := by decide +kernel
theorem dX2_tunnelsHeardBy_5 : decode cX2_tunnelsHeardBy 5 = .ok (.iconst 3, 1) := by decide +kernel
theorem dX2_tunnelsHeardBy_6 : decode cX2_tunnelsHeardBy 6 = .ok (.if_icmp .ge 28, 3) := by decide +kernel
theorem dX2_tunnelsHeardBy_9 : decode cX2_tunnelsHeardBy 9 = .ok (.iload_n 1, 1) := by decide +kernel
theorem dX2_tunnelsHeardBy_10 : decode cX2_tunnelsHeardBy 10 = .ok (.aload_n 0, 1) := by decide +kernel
theorem dX2_tunnelsHeardBy_11 : decode cX2_tunnelsHeardBy 11 = .ok (.getfield 18, 3) := by decide +kernel
theorem dX2_tunnelsHeardBy_14 : decode cX2_tunnelsHeardBy 14 = .ok (.iload_n 3, 1) := by decide +kernel
theorem dX2_tunnelsHeardBy_15 : decode cX2_tunnelsHeardBy 15 = .ok (.iaload, 1) := by decide +kernel
theorem dX2_tunnelsHeardBy_16 : decode cX2_tunnelsHeardBy 16 = .ok (.invokestatic 53, 3) := by decide +kernel
theorem dX2_tunnelsHeardBy_19 : decode cX2_tunnelsHeardBy 19 = .ok (.ifCond .eq 9, 3) := by decide +kernel
theorem dX2_tunnelsHeardBy_22 : decode cX2_tunnelsHeardBy 22 = .ok (.iload_n 2, 1) := by decide +kernel
theorem dX2_tunnelsHeardBy_23 : decode cX2_tunnelsHeardBy 23 = .ok (.iconst 1, 1) := by decide +kernel
theorem dX2_tunnelsHeardBy_24 : decode cX2_tunnelsHeardBy 24 = .ok (.iload_n 3, 1) := by decide +kernel
theorem dX2_tunnelsHeardBy_25 : decode cX2_tunnelsHeardBy 25 = .ok (.ishl, 1) := by decide +kernel
theorem dX2_tunnelsHeardBy_26 : decode cX2_tunnelsHeardBy 26 = .ok (.ior, 1) := by decide +kernel
theorem dX2_tunnelsHeardBy_27 : decode cX2_tunnelsHeardBy 27 = .ok (.istore_n 2, 1) := by decide +kernel
theorem dX2_tunnelsHeardBy_28 : decode cX2_tunnelsHeardBy 28 = .ok (.iinc 3 1, 3) := by decide +kernel
theorem dX2_tunnelsHeardBy_31 : decode cX2_tunnelsHeardBy 31 = .ok (.goto (-27), 3) := by decide +kernel
theorem dX2_tunnelsHeardBy_34 : decode cX2_tunnelsHeardBy 34 = .ok (.iload_n 2, 1) := by decide +kernel
theorem dX2_tunnelsHeardBy_35 : decode cX2_tunnelsHeardBy 35 = .ok (.ireturn, 1) := by decide +kernel
theorem dX2_hearings_0 : decode cX2_hearings 0 = .ok (.iconst 0, 1) := by decide +kernel
theorem dX2_hearings_1 : decode cX2_hearings 1 = .ok (.istore_n 1, 1) := by decide +kernel
theorem dX2_hearings_2 : decode cX2_hearings 2 = .ok (.iconst 0, 1) := by decide +kernel
theorem dX2_hearings_3 : decode cX2_hearings 3 = .ok (.istore_n 2, 1) := by decide +kernel
theorem dX2_hearings_4 : decode cX2_hearings 4 = .ok (.iload_n 2, 1) := by decide +kernel
theorem dX2_hearings_5 : decode cX2_hearings 5 = .ok (.iconst 3, 1) := by decide +kernel
theorem dX2_hearings_6 : decode cX2_hearings 6 = .ok (.if_icmp .ge 21, 3) := by decide +kernel
theorem dX2_hearings_9 : decode cX2_hearings 9 = .ok (.iload_n 1, 1) := by decide +kernel
theorem dX2_hearings_10 : decode cX2_hearings 10 = .ok (.aload_n 0, 1) := by decide +kernel
theorem dX2_hearings_11 : decode cX2_hearings 11 = .ok (.getfield 18, 3) := by decide +kernel
theorem dX2_hearings_14 : decode cX2_hearings 14 = .ok (.iload_n 2, 1) := by decide +kernel
theorem dX2_hearings_15 : decode cX2_hearings 15 = .ok (.iaload, 1) := by decide +kernel
theorem dX2_hearings_16 : decode cX2_hearings 16 = .ok (.invokestatic 57, 3) := by decide +kernel
theorem dX2_hearings_19 : decode cX2_hearings 19 = .ok (.iadd, 1) := by decide +kernel
theorem dX2_hearings_20 : decode cX2_hearings 20 = .ok (.istore_n 1, 1) := by decide +kernel
theorem dX2_hearings_21 : decode cX2_hearings 21 = .ok (.iinc 2 1, 3) := by decide +kernel
theorem dX2_hearings_24 : decode cX2_hearings 24 = .ok (.goto (-20), 3) := by decide +kernel
theorem dX2_hearings_27 : decode cX2_hearings 27 = .ok (.iload_n 1, 1) := by decide +kernel
theorem dX2_hearings_28 : decode cX2_hearings 28 = .ok (.ireturn, 1) := by decide +kernel
theorem dX2_note_0 : decode cX2_note 0 = .ok (.aload_n 0, 1) := by decide +kernel
theorem dX2_note_1 : decode cX2_note 1 = .ok (.getfield 33, 3) := by decide +kernel
theorem dX2_note_4 : decode cX2_note 4 = .ok (.ifCond .lt 12, 3) := by decide +kernel
theorem dX2_note_7 : decode cX2_note 7 = .ok (.aload_n 0, 1) := by decide +kernel
theorem dX2_note_8 : decode cX2_note 8 = .ok (.getfield 33, 3) := by decide +kernel
theorem dX2_note_11 : decode cX2_note 11 = .ok (.bipush 8, 2) := by decide +kernel
theorem dX2_note_13 : decode cX2_note 13 = .ok (.if_icmp .lt 5, 3) := by decide +kernel
theorem dX2_note_16 : decode cX2_note 16 = .ok (.iconst 0, 1) := by decide +kernel
theorem dX2_note_17 : decode cX2_note 17 = .ok (.ireturn, 1) := by decide +kernel
theorem dX2_note_18 : decode cX2_note 18 = .ok (.aload_n 0, 1) := by decide +kernel
theorem dX2_note_19 : decode cX2_note 19 = .ok (.getfield 27, 3) := by decide +kernel
theorem dX2_note_22 : decode cX2_note 22 = .ok (.aload_n 0, 1) := by decide +kernel
theorem dX2_note_23 : decode cX2_note 23 = .ok (.getfield 33, 3) := by decide +kernel
theorem dX2_note_26 : decode cX2_note 26 = .ok (.iload_n 1, 1) := by decide +kernel
theorem dX2_note_27 : decode cX2_note 27 = .ok (.iastore, 1) := by decide +kernel
theorem dX2_note_28 : decode cX2_note 28 = .ok (.aload_n 0, 1) := by decide +kernel
theorem dX2_note_29 : decode cX2_note 29 = .ok (.getfield 30, 3) := by decide +kernel
theorem dX2_note_32 : decode cX2_note 32 = .ok (.aload_n 0, 1) := by decide +kernel
theorem dX2_note_33 : decode cX2_note 33 = .ok (.getfield 33, 3) := by decide +kernel
theorem dX2_note_36 : decode cX2_note 36 = .ok (.iload_n 2, 1) := by decide +kernel
theorem dX2_note_37 : decode cX2_note 37 = .ok (.iastore, 1) := by decide +kernel
theorem dX2_note_38 : decode cX2_note 38 = .ok (.aload_n 0, 1) := by decide +kernel
theorem dX2_note_39 : decode cX2_note 39 = .ok (.dup, 1) := by decide +kernel
theorem dX2_note_40 : decode cX2_note 40 = .ok (.getfield 33, 3) := by decide +kernel
theorem dX2_note_43 : decode cX2_note 43 = .ok (.iconst 1, 1) := by decide +kernel
theorem dX2_note_44 : decode cX2_note 44 = .ok (.iadd, 1) := by decide +kernel
theorem dX2_note_45 : decode cX2_note 45 = .ok (.putfield 33, 3) := by decide +kernel
theorem dX2_note_48 : decode cX2_note 48 = .ok (.iconst 1, 1) := by decide +kernel
theorem dX2_note_49 : decode cX2_note 49 = .ok (.ireturn, 1) := by decide +kernel
theorem dX3_init_0 : decode cX3_init 0 = .ok (.aload_n 0, 1) := by decide +kernel
theorem dX3_init_1 : decode cX3_init 1 = .ok (.invokespecial 3, 3) := by decide +kernel
theorem dX3_init_4 : decode cX3_init 4 = .ok (.aload_n 0, 1) := by decide +kernel
theorem dX3_init_5 : decode cX3_init 5 = .ok (.aload_n 1, 1) := by decide +kernel
theorem dX3_init_6 : decode cX3_init 6 = .ok (.putfield 9, 3) := by decide +kernel
theorem dX3_init_9 : decode cX3_init 9 = .ok (.aload_n 0, 1) := by decide +kernel
theorem dX3_init_10 : decode cX3_init 10 = .ok (.aload_n 2, 1) := by decide +kernel
theorem dX3_init_11 : decode cX3_init 11 = .ok (.putfield 15, 3) := by decide +kernel
theorem dX3_init_14 : decode cX3_init 14 = .ok (.aload_n 0, 1) := by decide +kernel
theorem dX3_init_15 : decode cX3_init 15 = .ok (.aload_n 3, 1) := by decide +kernel
theorem dX3_init_16 : decode cX3_init 16 = .ok (.putfield 19, 3) := by decide +kernel
theorem dX3_init_19 : decode cX3_init 19 = .ok (.aload_n 0, 1) := by decide +kernel
theorem dX3_init_20 : decode cX3_init 20 = .ok (.bipush 7, 2) := by decide +kernel
theorem dX3_init_22 : decode cX3_init 22 = .ok (.newarray .int, 2) := by decide +kernel
theorem dX3_init_24 : decode cX3_init 24 = .ok (.putfield 23, 3) := by decide +kernel
theorem dX3_init_27 : decode cX3_init 27 = .ok (.return_, 1) := by decide +kernel
theorem dX3_beginners_0 : decode cX3_beginners 0 = .ok (.iconst 0, 1) := by decide +kernel
theorem dX3_beginners_1 : decode cX3_beginners 1 = .ok (.istore_n 1, 1) := by decide +kernel
theorem dX3_beginners_2 : decode cX3_beginners 2 = .ok (.iconst 0, 1) := by decide +kernel
theorem dX3_beginners_3 : decode cX3_beginners 3 = .ok (.istore_n 2, 1) := by decide +kernel
theorem dX3_beginners_4 : decode cX3_beginners 4 = .ok (.iload_n 2, 1) := by decide +kernel
theorem dX3_beginners_5 : decode cX3_beginners 5 = .ok (.aload_n 0, 1) := by decide +kernel
theorem dX3_beginners_6 : decode cX3_beginners 6 = .ok (.getfield 9, 3) := by decide +kernel
theorem dX3_beginners_9 : decode cX3_beginners 9 = .ok (.getfield 27, 3) := by decide +kernel
theorem dX3_beginners_12 : decode cX3_beginners 12 = .ok (.if_icmp .ge 23, 3) := by decide +kernel
theorem dX3_beginners_15 : decode cX3_beginners 15 = .ok (.aload_n 0, 1) := by decide +kernel
theorem dX3_beginners_16 : decode cX3_beginners 16 = .ok (.iload_n 2, 1) := by decide +kernel
theorem dX3_beginners_17 : decode cX3_beginners 17 = .ok (.invokevirtual 33, 3) := by decide +kernel
theorem dX3_beginners_20 : decode cX3_beginners 20 = .ok (.ifCond .eq 9, 3) := by decide +kernel
theorem dX3_beginners_23 : decode cX3_beginners 23 = .ok (.iload_n 1, 1) := by decide +kernel
theorem dX3_beginners_24 : decode cX3_beginners 24 = .ok (.iconst 1, 1) := by decide +kernel
theorem dX3_beginners_25 : decode cX3_beginners 25 = .ok (.iload_n 2, 1) := by decide +kernel
theorem dX3_beginners_26 : decode cX3_beginners 26 = .ok (.ishl, 1) := by decide +kernel
theorem dX3_beginners_27 : decode cX3_beginners 27 = .ok (.ior, 1) := by decide +kernel
theorem dX3_beginners_28 : decode cX3_beginners 28 = .ok (.istore_n 1, 1) := by decide +kernel
theorem dX3_beginners_29 : decode cX3_beginners 29 = .ok (.iinc 2 1, 3) := by decide +kernel
theorem dX3_beginners_32 : decode cX3_beginners 32 = .ok (.goto (-28), 3) := by decide +kernel
theorem dX3_beginners_35 : decode cX3_beginners 35 = .ok (.iload_n 1, 1) := by decide +kernel
theorem dX3_beginners_36 : decode cX3_beginners 36 = .ok (.ireturn, 1) := by decide +kernel
theorem dX3_bestToAsk_0 : decode cX3_bestToAsk 0 = .ok (.iload_n 1, 1) := by decide +kernel
theorem dX3_bestToAsk_1 : decode cX3_bestToAsk 1 = .ok (.ifCond .ne 5, 3) := by decide +kernel
theorem dX3_bestToAsk_4 : decode cX3_bestToAsk 4 = .ok (.iconst (-1), 1) := by decide +kernel
theorem dX3_bestToAsk_5 : decode cX3_bestToAsk 5 = .ok (.ireturn, 1) := by decide +kernel
theorem dX3_bestToAsk_6 : decode cX3_bestToAsk 6 = .ok (.iconst (-1), 1) := by decide +kernel
theorem dX3_bestToAsk_7 : decode cX3_bestToAsk 7 = .ok (.istore_n 2, 1) := by decide +kernel
theorem dX3_bestToAsk_8 : decode cX3_bestToAsk 8 = .ok (.aload_n 0, 1) := by decide +kernel
theorem dX3_bestToAsk_9 : decode cX3_bestToAsk 9 = .ok (.getfield 9, 3) := by decide +kernel
theorem dX3_bestToAsk_12 : decode cX3_bestToAsk 12 = .ok (.getfield 27, 3) := by decide +kernel
theorem dX3_bestToAsk_15 : decode cX3_bestToAsk 15 = .ok (.iconst 1, 1) := by decide +kernel
theorem dX3_bestToAsk_16 : decode cX3_bestToAsk 16 = .ok (.iadd, 1) := by decide +kernel
theorem dX3_bestToAsk_17 : decode cX3_bestToAsk 17 = .ok (.istore_n 3, 1) := by decide +kernel
theorem dX3_bestToAsk_18 : decode cX3_bestToAsk 18 = .ok (.iconst 0, 1) := by decide +kernel
theorem dX3_bestToAsk_19 : decode cX3_bestToAsk 19 = .ok (.istore 4, 2) := by decide +kernel
theorem dX3_bestToAsk_21 : decode cX3_bestToAsk 21 = .ok (.iload 4, 2) := by decide +kernel
theorem dX3_bestToAsk_23 : decode cX3_bestToAsk 23 = .ok (.aload_n 0, 1) := by decide +kernel
theorem dX3_bestToAsk_24 : decode cX3_bestToAsk 24 = .ok (.getfield 9, 3) := by decide +kernel
theorem dX3_bestToAsk_27 : decode cX3_bestToAsk 27 = .ok (.getfield 27, 3) := by decide +kernel
theorem dX3_bestToAsk_30 : decode cX3_bestToAsk 30 = .ok (.if_icmp .ge 30, 3) := by decide +kernel
theorem dX3_bestToAsk_33 : decode cX3_bestToAsk 33 = .ok (.aload_n 0, 1) := by decide +kernel
theorem dX3_bestToAsk_34 : decode cX3_bestToAsk 34 = .ok (.iload 4, 2) := by decide +kernel
theorem dX3_bestToAsk_36 : decode cX3_bestToAsk 36 = .ok (.iload_n 1, 1) := by decide +kernel
theorem dX3_bestToAsk_37 : decode cX3_bestToAsk 37 = .ok (.invokevirtual 37, 3) := by decide +kernel
theorem dX3_bestToAsk_40 : decode cX3_bestToAsk 40 = .ok (.istore 5, 2) := by decide +kernel
theorem dX3_bestToAsk_42 : decode cX3_bestToAsk 42 = .ok (.iload 5, 2) := by decide +kernel
theorem dX3_bestToAsk_44 : decode cX3_bestToAsk 44 = .ok (.iload_n 3, 1) := by decide +kernel
theorem dX3_bestToAsk_45 : decode cX3_bestToAsk 45 = .ok (.if_icmp .ge 9, 3) := by decide +kernel
theorem dX3_bestToAsk_48 : decode cX3_bestToAsk 48 = .ok (.iload 4, 2) := by decide +kernel
theorem dX3_bestToAsk_50 : decode cX3_bestToAsk 50 = .ok (.istore_n 2, 1) := by decide +kernel
theorem dX3_bestToAsk_51 : decode cX3_bestToAsk 51 = .ok (.iload 5, 2) := by decide +kernel
theorem dX3_bestToAsk_53 : decode cX3_bestToAsk 53 = .ok (.istore_n 3, 1) := by decide +kernel
theorem dX3_bestToAsk_54 : decode cX3_bestToAsk 54 = .ok (.iinc 4 1, 3) := by decide +kernel
theorem dX3_bestToAsk_57 : decode cX3_bestToAsk 57 = .ok (.goto (-36), 3) := by decide +kernel
theorem dX3_bestToAsk_60 : decode cX3_bestToAsk 60 = .ok (.iload_n 2, 1) := by decide +kernel
theorem dX3_bestToAsk_61 : decode cX3_bestToAsk 61 = .ok (.ireturn, 1) := by decide +kernel
theorem dX3_agrees_0 : decode cX3_agrees 0 = .ok (.iconst 0, 1) := by decide +kernel
theorem dX3_agrees_1 : decode cX3_agrees 1 = .ok (.istore_n 2, 1) := by decide +kernel
theorem dX3_agrees_2 : decode cX3_agrees 2 = .ok (.iload_n 2, 1) := by decide +kernel
theorem dX3_agrees_3 : decode cX3_agrees 3 = .ok (.aload_n 0, 1) := by decide +kernel
theorem dX3_agrees_4 : decode cX3_agrees 4 = .ok (.getfield 15, 3) := by decide +kernel
theorem dX3_agrees_7 : decode cX3_agrees 7 = .ok (.getfield 41, 3) := by decide +kernel
theorem dX3_agrees_10 : decode cX3_agrees 10 = .ok (.if_icmp .ge 46, 3) := by decide +kernel
theorem dX3_agrees_13 : decode cX3_agrees 13 = .ok (.iload_n 2, 1) := by decide +kernel
theorem dX3_agrees_14 : decode cX3_agrees 14 = .ok (.bipush 8, 2) := by decide +kernel
theorem dX3_agrees_16 : decode cX3_agrees 16 = .ok (.if_icmp .ge 40, 3) := by decide +kernel
theorem dX3_agrees_19 : decode cX3_agrees 19 = .ok (.aload_n 0, 1) := by decide +kernel
theorem dX3_agrees_20 : decode cX3_agrees 20 = .ok (.getfield 19, 3) := by decide +kernel
theorem dX3_agrees_23 : decode cX3_agrees 23 = .ok (.iload_n 1, 1) := by decide +kernel
theorem dX3_agrees_24 : decode cX3_agrees 24 = .ok (.aload_n 0, 1) := by decide +kernel
theorem dX3_agrees_25 : decode cX3_agrees 25 = .ok (.getfield 15, 3) := by decide +kernel
theorem dX3_agrees_28 : decode cX3_agrees 28 = .ok (.getfield 46, 3) := by decide +kernel
theorem dX3_agrees_31 : decode cX3_agrees 31 = .ok (.iload_n 2, 1) := by decide +kernel
theorem dX3_agrees_32 : decode cX3_agrees 32 = .ok (.iaload, 1) := by decide +kernel
theorem dX3_agrees_33 : decode cX3_agrees 33 = .ok (.invokevirtual 49, 3) := by decide +kernel
theorem dX3_agrees_36 : decode cX3_agrees 36 = .ok (.aload_n 0, 1) := by decide +kernel
theorem dX3_agrees_37 : decode cX3_agrees 37 = .ok (.getfield 15, 3) := by decide +kernel
theorem dX3_agrees_40 : decode cX3_agrees 40 = .ok (.getfield 54, 3) := by decide +kernel
theorem dX3_agrees_43 : decode cX3_agrees 43 = .ok (.iload_n 2, 1) := by decide +kernel
theorem dX3_agrees_44 : decode cX3_agrees 44 = .ok (.iaload, 1) := by decide +kernel
theorem dX3_agrees_45 : decode cX3_agrees 45 = .ok (.if_icmp .eq 5, 3) := by decide +kernel
theorem dX3_agrees_48 : decode cX3_agrees 48 = .ok (.iconst 0, 1) := by decide +kernel
theorem dX3_agrees_49 : decode cX3_agrees 49 = .ok (.ireturn, 1) := by decide +kernel
theorem dX3_agrees_50 : decode cX3_agrees 50 = .ok (.iinc 2 1, 3) := by decide +kernel
theorem dX3_agrees_53 : decode cX3_agrees 53 = .ok (.goto (-51), 3) := by decide +kernel
theorem dX3_agrees_56 : decode cX3_agrees 56 = .ok (.iconst 1, 1) := by decide +kernel
theorem dX3_agrees_57 : decode cX3_agrees 57 = .ok (.ireturn, 1) := by decide +kernel
theorem dX3_leftAtWorst_0 : decode cX3_leftAtWorst 0 = .ok (.iconst 0, 1) := by decide +kernel
theorem dX3_leftAtWorst_1 : decode cX3_leftAtWorst 1 = .ok (.istore_n 3, 1) := by decide +kernel
theorem dX3_leftAtWorst_2 : decode cX3_leftAtWorst 2 = .ok (.iload_n 3, 1) := by decide +kernel
theorem dX3_leftAtWorst_3 : decode cX3_leftAtWorst 3 = .ok (.aload_n 0, 1) := by decide +kernel
theorem dX3_leftAtWorst_4 : decode cX3_leftAtWorst 4 = .ok (.getfield 23, 3) := by decide +kernel
theorem dX3_leftAtWorst_7 : decode cX3_leftAtWorst 7 = .ok (.arraylength, 1) := by decide +kernel
theorem dX3_leftAtWorst_8 : decode cX3_leftAtWorst 8 = .ok (.if_icmp .ge 16, 3) := by decide +kernel
theorem dX3_leftAtWorst_11 : decode cX3_leftAtWorst 11 = .ok (.aload_n 0, 1) := by decide +kernel
theorem dX3_leftAtWorst_12 : decode cX3_leftAtWorst 12 = .ok (.getfield 23, 3) := by decide +kernel
theorem dX3_leftAtWorst_15 : decode cX3_leftAtWorst 15 = .ok (.iload_n 3, 1) := by decide +kernel
theorem dX3_leftAtWorst_16 : decode cX3_leftAtWorst 16 = .ok (.iconst 0, 1) := by decide +kernel
theorem dX3_leftAtWorst_17 : decode cX3_leftAtWorst 17 = .ok (.iastore, 1) := by decide +kernel
theorem dX3_leftAtWorst_18 : decode cX3_leftAtWorst 18 = .ok (.iinc 3 1, 3) := by decide +kernel
theorem dX3_leftAtWorst_21 : decode cX3_leftAtWorst 21 = .ok (.goto (-19), 3) := by decide +kernel
theorem dX3_leftAtWorst_24 : decode cX3_leftAtWorst 24 = .ok (.iconst 0, 1) := by decide +kernel
theorem dX3_leftAtWorst_25 : decode cX3_leftAtWorst 25 = .ok (.istore_n 3, 1) := by decide +kernel
theorem dX3_leftAtWorst_26 : decode cX3_leftAtWorst 26 = .ok (.iconst 0, 1) := by decide +kernel
theorem dX3_leftAtWorst_27 : decode cX3_leftAtWorst 27 = .ok (.istore 4, 2) := by decide +kernel
theorem dX3_leftAtWorst_29 : decode cX3_leftAtWorst 29 = .ok (.iload 4, 2) := by decide +kernel
theorem dX3_leftAtWorst_31 : decode cX3_leftAtWorst 31 = .ok (.aload_n 0, 1) := by decide +kernel
theorem dX3_leftAtWorst_32 : decode cX3_leftAtWorst 32 = .ok (.getfield 9, 3) := by decide +kernel
theorem dX3_leftAtWorst_35 : decode cX3_leftAtWorst 35 = .ok (.getfield 27, 3) := by decide +kernel
theorem dX3_leftAtWorst_38 : decode cX3_leftAtWorst 38 = .ok (.if_icmp .ge 70, 3) := by decide +kernel
theorem dX3_leftAtWorst_41 : decode cX3_leftAtWorst 41 = .ok (.aload_n 0, 1) := by decide +kernel
theorem dX3_leftAtWorst_42 : decode cX3_leftAtWorst 42 = .ok (.getfield 19, 3) := by decide +kernel
theorem dX3_leftAtWorst_45 : decode cX3_leftAtWorst 45 = .ok (.iload 4, 2) := by decide +kernel
theorem dX3_leftAtWorst_47 : decode cX3_leftAtWorst 47 = .ok (.iload_n 1, 1) := by decide +kernel
theorem dX3_leftAtWorst_48 : decode cX3_leftAtWorst 48 = .ok (.invokevirtual 49, 3) := by decide +kernel
theorem dX3_leftAtWorst_51 : decode cX3_leftAtWorst 51 = .ok (.iconst 1, 1) := by decide +kernel
theorem dX3_leftAtWorst_52 : decode cX3_leftAtWorst 52 = .ok (.iadd, 1) := by decide +kernel
theorem dX3_leftAtWorst_53 : decode cX3_leftAtWorst 53 = .ok (.istore 5, 2) := by decide +kernel
theorem dX3_leftAtWorst_55 : decode cX3_leftAtWorst 55 = .ok (.iload 4, 2) := by decide +kernel
theorem dX3_leftAtWorst_57 : decode cX3_leftAtWorst 57 = .ok (.iload_n 2, 1) := by decide +kernel
theorem dX3_leftAtWorst_58 : decode cX3_leftAtWorst 58 = .ok (.invokestatic 57, 3) := by decide +kernel
theorem dX3_leftAtWorst_61 : decode cX3_leftAtWorst 61 = .ok (.ifCond .eq 41, 3) := by decide +kernel
theorem dX3_leftAtWorst_64 : decode cX3_leftAtWorst 64 = .ok (.iload 5, 2) := by decide +kernel
theorem dX3_leftAtWorst_66 : decode cX3_leftAtWorst 66 = .ok (.ifCond .lt 36, 3) := by decide +kernel
theorem dX3_leftAtWorst_69 : decode cX3_leftAtWorst 69 = .ok (.iload 5, 2) := by decide +kernel
theorem dX3_leftAtWorst_71 : decode cX3_leftAtWorst 71 = .ok (.aload_n 0, 1) := by decide +kernel
theorem dX3_leftAtWorst_72 : decode cX3_leftAtWorst 72 = .ok (.getfield 23, 3) := by decide +kernel
theorem dX3_leftAtWorst_75 : decode cX3_leftAtWorst 75 = .ok (.arraylength, 1) := by decide +kernel
theorem dX3_leftAtWorst_76 : decode cX3_leftAtWorst 76 = .ok (.if_icmp .ge 26, 3) := by decide +kernel
theorem dX3_leftAtWorst_79 : decode cX3_leftAtWorst 79 = .ok (.aload_n 0, 1) := by decide +kernel
theorem dX3_leftAtWorst_80 : decode cX3_leftAtWorst 80 = .ok (.getfield 23, 3) := by decide +kernel
theorem dX3_leftAtWorst_83 : decode cX3_leftAtWorst 83 = .ok (.iload 5, 2) := by decide +kernel
theorem dX3_leftAtWorst_85 : decode cX3_leftAtWorst 85 = .ok (.dup2, 1) := by decide +kernel
theorem dX3_leftAtWorst_86 : decode cX3_leftAtWorst 86 = .ok (.iaload, 1) := by decide +kernel
theorem dX3_leftAtWorst_87 : decode cX3_leftAtWorst 87 = .ok (.iconst 1, 1) := by decide +kernel
theorem dX3_leftAtWorst_88 : decode cX3_leftAtWorst 88 = .ok (.iadd, 1) := by decide +kernel
theorem dX3_leftAtWorst_89 : decode cX3_leftAtWorst 89 = .ok (.iastore, 1) := by decide +kernel
theorem dX3_leftAtWorst_90 : decode cX3_leftAtWorst 90 = .ok (.iload_n 3, 1) := by decide +kernel
theorem dX3_leftAtWorst_91 : decode cX3_leftAtWorst 91 = .ok (.aload_n 0, 1) := by decide +kernel
theorem dX3_leftAtWorst_92 : decode cX3_leftAtWorst 92 = .ok (.getfield 23, 3) := by decide +kernel
theorem dX3_leftAtWorst_95 : decode cX3_leftAtWorst 95 = .ok (.iload 5, 2) := by decide +kernel
theorem dX3_leftAtWorst_97 : decode cX3_leftAtWorst 97 = .ok (.iaload, 1) := by decide +kernel
theorem dX3_leftAtWorst_98 : decode cX3_leftAtWorst 98 = .ok (.invokestatic 61, 3) := by decide +kernel
theorem dX3_leftAtWorst_101 : decode cX3_leftAtWorst 101 = .ok (.istore_n 3, 1) := by decide +kernel
theorem dX3_leftAtWorst_102 : decode cX3_leftAtWorst 102 = .ok (.iinc 4 1, 3) := by decide +kernel
theorem dX3_leftAtWorst_105 : decode cX3_leftAtWorst 105 = .ok (.goto (-76), 3) := by decide +kernel
theorem dX3_leftAtWorst_108 : decode cX3_leftAtWorst 108 = .ok (.iload_n 3, 1) := by decide +kernel
theorem dX3_leftAtWorst_109 : decode cX3_leftAtWorst 109 = .ok (.ireturn, 1) := by decide +kernel
theorem dX4_init_0 : decode cX4_init 0 = .ok (.aload_n 0, 1) := by decide +kernel
theorem dX4_init_1 : decode cX4_init 1 = .ok (.invokespecial 3, 3) := by decide +kernel
theorem dX4_init_4 : decode cX4_init 4 = .ok (.aload_n 0, 1) := by decide +kernel
theorem dX4_init_5 : decode cX4_init 5 = .ok (.aload_n 1, 1) := by decide +kernel
theorem dX4_init_6 : decode cX4_init 6 = .ok (.putfield 9, 3) := by decide +kernel
theorem dX4_init_9 : decode cX4_init 9 = .ok (.aload_n 0, 1) := by decide +kernel
theorem dX4_init_10 : decode cX4_init 10 = .ok (.aload_n 2, 1) := by decide +kernel
theorem dX4_init_11 : decode cX4_init 11 = .ok (.putfield 15, 3) := by decide +kernel
theorem dX4_init_14 : decode cX4_init 14 = .ok (.return_, 1) := by decide +kernel
theorem dX4_hearers_0 : decode cX4_hearers 0 = .ok (.iconst 0, 1) := by decide +kernel
theorem dX4_hearers_1 : decode cX4_hearers 1 = .ok (.istore_n 3, 1) := by decide +kernel
theorem dX4_hearers_2 : decode cX4_hearers 2 = .ok (.iconst 0, 1) := by decide +kernel
theorem dX4_hearers_3 : decode cX4_hearers 3 = .ok (.istore 4, 2) := by decide +kernel
theorem dX4_hearers_5 : decode cX4_hearers 5 = .ok (.iload 4, 2) := by decide +kernel
theorem dX4_hearers_7 : decode cX4_hearers 7 = .ok (.aload_n 0, 1) := by decide +kernel
theorem dX4_hearers_8 : decode cX4_hearers 8 = .ok (.getfield 9, 3) := by decide +kernel
theorem dX4_hearers_11 : decode cX4_hearers 11 = .ok (.getfield 19, 3) := by decide +kernel
theorem dX4_hearers_14 : decode cX4_hearers 14 = .ok (.if_icmp .ge 30, 3) := by decide +kernel
theorem dX4_hearers_17 : decode cX4_hearers 17 = .ok (.iload 4, 2) := by decide +kernel
theorem dX4_hearers_19 : decode cX4_hearers 19 = .ok (.iload_n 2, 1) := by decide +kernel
theorem dX4_hearers_20 : decode cX4_hearers 20 = .ok (.invokestatic 25, 3) := by decide +kernel
theorem dX4_hearers_23 : decode cX4_hearers 23 = .ok (.ifCond .eq 15, 3) := by decide +kernel
theorem dX4_hearers_26 : decode cX4_hearers 26 = .ok (.iload_n 3, 1) := by decide +kernel
theorem dX4_hearers_27 : decode cX4_hearers 27 = .ok (.aload_n 0, 1) := by decide +kernel
theorem dX4_hearers_28 : decode cX4_hearers 28 = .ok (.getfield 15, 3) := by decide +kernel
theorem dX4_hearers_31 : decode cX4_hearers 31 = .ok (.iload 4, 2) := by decide +kernel
theorem dX4_hearers_33 : decode cX4_hearers 33 = .ok (.invokevirtual 29, 3) := by decide +kernel
theorem dX4_hearers_36 : decode cX4_hearers 36 = .ok (.ior, 1) := by decide +kernel
theorem dX4_hearers_37 : decode cX4_hearers 37 = .ok (.istore_n 3, 1) := by decide +kernel
theorem dX4_hearers_38 : decode cX4_hearers 38 = .ok (.iinc 4 1, 3) := by decide +kernel
theorem dX4_hearers_41 : decode cX4_hearers 41 = .ok (.goto (-36), 3) := by decide +kernel
theorem dX4_hearers_44 : decode cX4_hearers 44 = .ok (.iload_n 3, 1) := by decide +kernel
theorem dX4_hearers_45 : decode cX4_hearers 45 = .ok (.iload_n 1, 1) := by decide +kernel
theorem dX4_hearers_46 : decode cX4_hearers 46 = .ok (.iconst (-1), 1) := by decide +kernel
theorem dX4_hearers_47 : decode cX4_hearers 47 = .ok (.ixor, 1) := by decide +kernel
theorem dX4_hearers_48 : decode cX4_hearers 48 = .ok (.iand, 1) := by decide +kernel
theorem dX4_hearers_49 : decode cX4_hearers 49 = .ok (.ireturn, 1) := by decide +kernel
theorem dX4_ends_0 : decode cX4_ends 0 = .ok (.aload_n 0, 1) := by decide +kernel
theorem dX4_ends_1 : decode cX4_ends 1 = .ok (.iload_n 1, 1) := by decide +kernel
theorem dX4_ends_2 : decode cX4_ends 2 = .ok (.iload_n 1, 1) := by decide +kernel
theorem dX4_ends_3 : decode cX4_ends 3 = .ok (.iconst 0, 1) := by decide +kernel
theorem dX4_ends_4 : decode cX4_ends 4 = .ok (.invokevirtual 35, 3) := by decide +kernel
theorem dX4_ends_7 : decode cX4_ends 7 = .ok (.ireturn, 1) := by decide +kernel
theorem dX4_lengthInTheEnd_0 : decode cX4_lengthInTheEnd 0 = .ok (.iload_n 1, 1) := by decide +kernel
theorem dX4_lengthInTheEnd_1 : decode cX4_lengthInTheEnd 1 = .ok (.istore 4, 2) := by decide +kernel
theorem dX4_lengthInTheEnd_3 : decode cX4_lengthInTheEnd 3 = .ok (.iload_n 2, 1) := by decide +kernel
theorem dX4_lengthInTheEnd_4 : decode cX4_lengthInTheEnd 4 = .ok (.istore 5, 2) := by decide +kernel
theorem dX4_lengthInTheEnd_6 : decode cX4_lengthInTheEnd 6 = .ok (.iconst 0, 1) := by decide +kernel
theorem dX4_lengthInTheEnd_7 : decode cX4_lengthInTheEnd 7 = .ok (.istore 6, 2) := by decide +kernel
theorem dX4_lengthInTheEnd_9 : decode cX4_lengthInTheEnd 9 = .ok (.iload 6, 2) := by decide +kernel
theorem dX4_lengthInTheEnd_11 : decode cX4_lengthInTheEnd 11 = .ok (.aload_n 0, 1) := by decide +kernel
theorem dX4_lengthInTheEnd_12 : decode cX4_lengthInTheEnd 12 = .ok (.getfield 9, 3) := by decide +kernel
theorem dX4_lengthInTheEnd_15 : decode cX4_lengthInTheEnd 15 = .ok (.getfield 19, 3) := by decide +kernel
theorem dX4_lengthInTheEnd_18 : decode cX4_lengthInTheEnd 18 = .ok (.if_icmp .ge 31, 3) := by decide +kernel
theorem dX4_lengthInTheEnd_21 : decode cX4_lengthInTheEnd 21 = .ok (.iload 5, 2) := by decide +kernel
theorem dX4_lengthInTheEnd_23 : decode cX4_lengthInTheEnd 23 = .ok (.ifCond .eq 26, 3) := by decide +kernel
theorem dX4_lengthInTheEnd_26 : decode cX4_lengthInTheEnd 26 = .ok (.aload_n 0, 1) := by decide +kernel
theorem dX4_lengthInTheEnd_27 : decode cX4_lengthInTheEnd 27 = .ok (.iload 4, 2) := by decide +kernel
theorem dX4_lengthInTheEnd_29 : decode cX4_lengthInTheEnd 29 = .ok (.iload 5, 2) := by decide +kernel
theorem dX4_lengthInTheEnd_31 : decode cX4_lengthInTheEnd 31 = .ok (.invokevirtual 39, 3) := by decide +kernel
theorem dX4_lengthInTheEnd_34 : decode cX4_lengthInTheEnd 34 = .ok (.istore 5, 2) := by decide +kernel
theorem dX4_lengthInTheEnd_36 : decode cX4_lengthInTheEnd 36 = .ok (.iload 4, 2) := by decide +kernel
theorem dX4_lengthInTheEnd_38 : decode cX4_lengthInTheEnd 38 = .ok (.iload 5, 2) := by decide +kernel
theorem dX4_lengthInTheEnd_40 : decode cX4_lengthInTheEnd 40 = .ok (.ior, 1) := by decide +kernel
theorem dX4_lengthInTheEnd_41 : decode cX4_lengthInTheEnd 41 = .ok (.istore 4, 2) := by decide +kernel
theorem dX4_lengthInTheEnd_43 : decode cX4_lengthInTheEnd 43 = .ok (.iinc 6 1, 3) := by decide +kernel
theorem dX4_lengthInTheEnd_46 : decode cX4_lengthInTheEnd 46 = .ok (.goto (-37), 3) := by decide +kernel
theorem dX4_lengthInTheEnd_49 : decode cX4_lengthInTheEnd 49 = .ok (.aload_n 0, 1) := by decide +kernel
theorem dX4_lengthInTheEnd_50 : decode cX4_lengthInTheEnd 50 = .ok (.getfield 9, 3) := by decide +kernel
theorem dX4_lengthInTheEnd_53 : decode cX4_lengthInTheEnd 53 = .ok (.iload 4, 2) := by decide +kernel
theorem dX4_lengthInTheEnd_55 : decode cX4_lengthInTheEnd 55 = .ok (.iload_n 3, 1) := by decide +kernel
theorem dX4_lengthInTheEnd_56 : decode cX4_lengthInTheEnd 56 = .ok (.invokevirtual 43, 3) := by decide +kernel
theorem dX4_lengthInTheEnd_59 : decode cX4_lengthInTheEnd 59 = .ok (.ireturn, 1) := by decide +kernel
theorem dX4_lasts_0 : decode cX4_lasts 0 = .ok (.iconst 0, 1) := by decide +kernel
theorem dX4_lasts_1 : decode cX4_lasts 1 = .ok (.istore_n 2, 1) := by decide +kernel
theorem dX4_lasts_2 : decode cX4_lasts 2 = .ok (.iconst 0, 1) := by decide +kernel
theorem dX4_lasts_3 : decode cX4_lasts 3 = .ok (.istore_n 3, 1) := by decide +kernel
theorem dX4_lasts_4 : decode cX4_lasts 4 = .ok (.iload_n 3, 1) := by decide +kernel
theorem dX4_lasts_5 : decode cX4_lasts 5 = .ok (.aload_n 0, 1) := by decide +kernel
theorem dX4_lasts_6 : decode cX4_lasts 6 = .ok (.getfield 9, 3) := by decide +kernel
theorem dX4_lasts_9 : decode cX4_lasts 9 = .ok (.getfield 19, 3) := by decide +kernel
theorem dX4_lasts_12 : decode cX4_lasts 12 = .ok (.if_icmp .ge 20, 3) := by decide +kernel
theorem dX4_lasts_15 : decode cX4_lasts 15 = .ok (.iload_n 2, 1) := by decide +kernel
theorem dX4_lasts_16 : decode cX4_lasts 16 = .ok (.aload_n 0, 1) := by decide +kernel
theorem dX4_lasts_17 : decode cX4_lasts 17 = .ok (.iload_n 1, 1) := by decide +kernel
theorem dX4_lasts_18 : decode cX4_lasts 18 = .ok (.iload_n 3, 1) := by decide +kernel
theorem dX4_lasts_19 : decode cX4_lasts 19 = .ok (.invokevirtual 46, 3) := by decide +kernel
theorem dX4_lasts_22 : decode cX4_lasts 22 = .ok (.invokestatic 49, 3) := by decide +kernel
theorem dX4_lasts_25 : decode cX4_lasts 25 = .ok (.istore_n 2, 1) := by decide +kernel
theorem dX4_lasts_26 : decode cX4_lasts 26 = .ok (.iinc 3 1, 3) := by decide +kernel
theorem dX4_lasts_29 : decode cX4_lasts 29 = .ok (.goto (-25), 3) := by decide +kernel
theorem dX4_lasts_32 : decode cX4_lasts 32 = .ok (.iload_n 2, 1) := by decide +kernel
theorem dX4_lasts_33 : decode cX4_lasts 33 = .ok (.ireturn, 1) := by decide +kernel
theorem dX4_dayHeard_0 : decode cX4_dayHeard 0 = .ok (.iconst 1, 1) := by decide +kernel
theorem dX4_dayHeard_1 : decode cX4_dayHeard 1 = .ok (.iload_n 1, 1) := by decide +kernel
theorem dX4_dayHeard_2 : decode cX4_dayHeard 2 = .ok (.ishl, 1) := by decide +kernel
theorem dX4_dayHeard_3 : decode cX4_dayHeard 3 = .ok (.istore_n 3, 1) := by decide +kernel
theorem dX4_dayHeard_4 : decode cX4_dayHeard 4 = .ok (.iload_n 3, 1) := by decide +kernel
theorem dX4_dayHeard_5 : decode cX4_dayHeard 5 = .ok (.istore 4, 2) := by decide +kernel
theorem dX4_dayHeard_7 : decode cX4_dayHeard 7 = .ok (.iconst 0, 1) := by decide +kernel
theorem dX4_dayHeard_8 : decode cX4_dayHeard 8 = .ok (.istore 5, 2) := by decide +kernel
theorem dX4_dayHeard_10 : decode cX4_dayHeard 10 = .ok (.iload 5, 2) := by decide +kernel
theorem dX4_dayHeard_12 : decode cX4_dayHeard 12 = .ok (.aload_n 0, 1) := by decide +kernel
theorem dX4_dayHeard_13 : decode cX4_dayHeard 13 = .ok (.getfield 9, 3) := by decide +kernel
theorem dX4_dayHeard_16 : decode cX4_dayHeard 16 = .ok (.getfield 19, 3) := by decide +kernel
theorem dX4_dayHeard_19 : decode cX4_dayHeard 19 = .ok (.if_icmp .ge 40, 3) := by decide +kernel
theorem dX4_dayHeard_22 : decode cX4_dayHeard 22 = .ok (.iload 4, 2) := by decide +kernel
theorem dX4_dayHeard_24 : decode cX4_dayHeard 24 = .ok (.ifCond .eq 35, 3) := by decide +kernel
theorem dX4_dayHeard_27 : decode cX4_dayHeard 27 = .ok (.iload_n 2, 1) := by decide +kernel
theorem dX4_dayHeard_28 : decode cX4_dayHeard 28 = .ok (.iload 4, 2) := by decide +kernel
theorem dX4_dayHeard_30 : decode cX4_dayHeard 30 = .ok (.invokestatic 25, 3) := by decide +kernel
theorem dX4_dayHeard_33 : decode cX4_dayHeard 33 = .ok (.ifCond .eq 6, 3) := by decide +kernel
theorem dX4_dayHeard_36 : decode cX4_dayHeard 36 = .ok (.iload 5, 2) := by decide +kernel
theorem dX4_dayHeard_38 : decode cX4_dayHeard 38 = .ok (.ireturn, 1) := by decide +kernel
theorem dX4_dayHeard_39 : decode cX4_dayHeard 39 = .ok (.aload_n 0, 1) := by decide +kernel
theorem dX4_dayHeard_40 : decode cX4_dayHeard 40 = .ok (.iload_n 3, 1) := by decide +kernel
theorem dX4_dayHeard_41 : decode cX4_dayHeard 41 = .ok (.iload 4, 2) := by decide +kernel
theorem dX4_dayHeard_43 : decode cX4_dayHeard 43 = .ok (.invokevirtual 39, 3) := by decide +kernel
theorem dX4_dayHeard_46 : decode cX4_dayHeard 46 = .ok (.istore 4, 2) := by decide +kernel
theorem dX4_dayHeard_48 : decode cX4_dayHeard 48 = .ok (.iload_n 3, 1) := by decide +kernel
theorem dX4_dayHeard_49 : decode cX4_dayHeard 49 = .ok (.iload 4, 2) := by decide +kernel
theorem dX4_dayHeard_51 : decode cX4_dayHeard 51 = .ok (.ior, 1) := by decide +kernel
theorem dX4_dayHeard_52 : decode cX4_dayHeard 52 = .ok (.istore_n 3, 1) := by decide +kernel
theorem dX4_dayHeard_53 : decode cX4_dayHeard 53 = .ok (.iinc 5 1, 3) := by decide +kernel
theorem dX4_dayHeard_56 : decode cX4_dayHeard 56 = .ok (.goto (-46), 3) := by decide +kernel
theorem dX4_dayHeard_59 : decode cX4_dayHeard 59 = .ok (.iconst (-1), 1) := by decide +kernel
theorem dX4_dayHeard_60 : decode cX4_dayHeard 60 = .ok (.ireturn, 1) := by decide +kernel
end
section
theorem dX5_init_0 : decode cX5_init 0 = .ok (.aload_n 0, 1) := by decide +kernel
theorem dX5_init_1 : decode cX5_init 1 = .ok (.invokespecial 1, 3) := by decide +kernel
theorem dX5_init_4 : decode cX5_init 4 = .ok (.aload_n 0, 1) := by decide +kernel
theorem dX5_init_5 : decode cX5_init 5 = .ok (.new 7, 3) := by decide +kernel
theorem dX5_init_8 : decode cX5_init 8 = .ok (.dup, 1) := by decide +kernel
theorem dX5_init_9 : decode cX5_init 9 = .ok (.invokespecial 9, 3) := by decide +kernel
theorem dX5_init_12 : decode cX5_init 12 = .ok (.putfield 10, 3) := by decide +kernel
theorem dX5_init_15 : decode cX5_init 15 = .ok (.aload_n 0, 1) := by decide +kernel
theorem dX5_init_16 : decode cX5_init 16 = .ok (.new 16, 3) := by decide +kernel
theorem dX5_init_19 : decode cX5_init 19 = .ok (.dup, 1) := by decide +kernel
theorem dX5_init_20 : decode cX5_init 20 = .ok (.invokespecial 18, 3) := by decide +kernel
theorem dX5_init_23 : decode cX5_init 23 = .ok (.putfield 19, 3) := by decide +kernel
theorem dX5_init_26 : decode cX5_init 26 = .ok (.aload_n 0, 1) := by decide +kernel
theorem dX5_init_27 : decode cX5_init 27 = .ok (.new 23, 3) := by decide +kernel
theorem dX5_init_30 : decode cX5_init 30 = .ok (.dup, 1) := by decide +kernel
theorem dX5_init_31 : decode cX5_init 31 = .ok (.invokespecial 25, 3) := by decide +kernel
theorem dX5_init_34 : decode cX5_init 34 = .ok (.putfield 26, 3) := by decide +kernel
theorem dX5_init_37 : decode cX5_init 37 = .ok (.aload_n 0, 1) := by decide +kernel
theorem dX5_init_38 : decode cX5_init 38 = .ok (.new 23, 3) := by decide +kernel
theorem dX5_init_41 : decode cX5_init 41 = .ok (.dup, 1) := by decide +kernel
theorem dX5_init_42 : decode cX5_init 42 = .ok (.invokespecial 25, 3) := by decide +kernel
theorem dX5_init_45 : decode cX5_init 45 = .ok (.putfield 30, 3) := by decide +kernel
theorem dX5_init_48 : decode cX5_init 48 = .ok (.aload_n 0, 1) := by decide +kernel
theorem dX5_init_49 : decode cX5_init 49 = .ok (.new 33, 3) := by decide +kernel
theorem dX5_init_52 : decode cX5_init 52 = .ok (.dup, 1) := by decide +kernel
theorem dX5_init_53 : decode cX5_init 53 = .ok (.aload_n 0, 1) := by decide +kernel
theorem dX5_init_54 : decode cX5_init 54 = .ok (.getfield 19, 3) := by decide +kernel
theorem dX5_init_57 : decode cX5_init 57 = .ok (.aload_n 0, 1) := by decide +kernel
theorem dX5_init_58 : decode cX5_init 58 = .ok (.getfield 26, 3) := by decide +kernel
theorem dX5_init_61 : decode cX5_init 61 = .ok (.invokespecial 35, 3) := by decide +kernel
theorem dX5_init_64 : decode cX5_init 64 = .ok (.putfield 38, 3) := by decide +kernel
theorem dX5_init_67 : decode cX5_init 67 = .ok (.aload_n 0, 1) := by decide +kernel
theorem dX5_init_68 : decode cX5_init 68 = .ok (.new 42, 3) := by decide +kernel
theorem dX5_init_71 : decode cX5_init 71 = .ok (.dup, 1) := by decide +kernel
theorem dX5_init_72 : decode cX5_init 72 = .ok (.aload_n 0, 1) := by decide +kernel
theorem dX5_init_73 : decode cX5_init 73 = .ok (.getfield 19, 3) := by decide +kernel
theorem dX5_init_76 : decode cX5_init 76 = .ok (.aload_n 0, 1) := by decide +kernel
theorem dX5_init_77 : decode cX5_init 77 = .ok (.getfield 26, 3) := by decide +kernel
theorem dX5_init_80 : decode cX5_init 80 = .ok (.aload_n 0, 1) := by decide +kernel
theorem dX5_init_81 : decode cX5_init 81 = .ok (.getfield 38, 3) := by decide +kernel
theorem dX5_init_84 : decode cX5_init 84 = .ok (.invokespecial 44, 3) := by decide +kernel
theorem dX5_init_87 : decode cX5_init 87 = .ok (.putfield 47, 3) := by decide +kernel
theorem dX5_init_90 : decode cX5_init 90 = .ok (.aload_n 0, 1) := by decide +kernel
theorem dX5_init_91 : decode cX5_init 91 = .ok (.iconst 0, 1) := by decide +kernel
theorem dX5_init_92 : decode cX5_init 92 = .ok (.putfield 51, 3) := by decide +kernel
theorem dX5_init_95 : decode cX5_init 95 = .ok (.aload_n 0, 1) := by decide +kernel
theorem dX5_init_96 : decode cX5_init 96 = .ok (.iconst 0, 1) := by decide +kernel
theorem dX5_init_97 : decode cX5_init 97 = .ok (.putfield 55, 3) := by decide +kernel
theorem dX5_init_100 : decode cX5_init 100 = .ok (.return_, 1) := by decide +kernel
theorem dX5_letter_0 : decode cX5_letter 0 = .ok (.iload_n 1, 1) := by decide +kernel
theorem dX5_letter_1 : decode cX5_letter 1 = .ok (.iconst 1, 1) := by decide +kernel
theorem dX5_letter_2 : decode cX5_letter 2 = .ok (.if_icmp .lt 9, 3) := by decide +kernel
theorem dX5_letter_5 : decode cX5_letter 5 = .ok (.iload_n 1, 1) := by decide +kernel
theorem dX5_letter_6 : decode cX5_letter 6 = .ok (.bipush 126, 2) := by decide +kernel
theorem dX5_letter_8 : decode cX5_letter 8 = .ok (.if_icmp .le 6, 3) := by decide +kernel
theorem dX5_letter_11 : decode cX5_letter 11 = .ok (.bipush (-102), 2) := by decide +kernel
theorem dX5_letter_13 : decode cX5_letter 13 = .ok (.ireturn, 1) := by decide +kernel
theorem dX5_letter_14 : decode cX5_letter 14 = .ok (.aload_n 0, 1) := by decide +kernel
theorem dX5_letter_15 : decode cX5_letter 15 = .ok (.getfield 10, 3) := by decide +kernel
theorem dX5_letter_18 : decode cX5_letter 18 = .ok (.iload_n 1, 1) := by decide +kernel
theorem dX5_letter_19 : decode cX5_letter 19 = .ok (.invokevirtual 59, 3) := by decide +kernel
theorem dX5_letter_22 : decode cX5_letter 22 = .ok (.ifCond .eq 13, 3) := by decide +kernel
theorem dX5_letter_25 : decode cX5_letter 25 = .ok (.aload_n 0, 1) := by decide +kernel
theorem dX5_letter_26 : decode cX5_letter 26 = .ok (.getfield 10, 3) := by decide +kernel
theorem dX5_letter_29 : decode cX5_letter 29 = .ok (.getfield 63, 3) := by decide +kernel
theorem dX5_letter_32 : decode cX5_letter 32 = .ok (.goto 5, 3) := by decide +kernel
theorem dX5_letter_35 : decode cX5_letter 35 = .ok (.bipush (-104), 2) := by decide +kernel
theorem dX5_letter_37 : decode cX5_letter 37 = .ok (.ireturn, 1) := by decide +kernel
theorem dX5_blank_0 : decode cX5_blank 0 = .ok (.aload_n 0, 1) := by decide +kernel
theorem dX5_blank_1 : decode cX5_blank 1 = .ok (.getfield 10, 3) := by decide +kernel
theorem dX5_blank_4 : decode cX5_blank 4 = .ok (.getfield 63, 3) := by decide +kernel
theorem dX5_blank_7 : decode cX5_blank 7 = .ok (.istore_n 1, 1) := by decide +kernel
theorem dX5_blank_8 : decode cX5_blank 8 = .ok (.aload_n 0, 1) := by decide +kernel
theorem dX5_blank_9 : decode cX5_blank 9 = .ok (.getfield 10, 3) := by decide +kernel
theorem dX5_blank_12 : decode cX5_blank 12 = .ok (.invokevirtual 66, 3) := by decide +kernel
theorem dX5_blank_15 : decode cX5_blank 15 = .ok (.iload_n 1, 1) := by decide +kernel
theorem dX5_blank_16 : decode cX5_blank 16 = .ok (.ireturn, 1) := by decide +kernel
theorem dX5_fault_0 : decode cX5_fault 0 = .ok (.aload_n 0, 1) := by decide +kernel
theorem dX5_fault_1 : decode cX5_fault 1 = .ok (.getfield 10, 3) := by decide +kernel
theorem dX5_fault_4 : decode cX5_fault 4 = .ok (.invokevirtual 69, 3) := by decide +kernel
theorem dX5_fault_7 : decode cX5_fault 7 = .ok (.ireturn, 1) := by decide +kernel
theorem dX5_hill_0 : decode cX5_hill 0 = .ok (.aload_n 0, 1) := by decide +kernel
theorem dX5_hill_1 : decode cX5_hill 1 = .ok (.getfield 10, 3) := by decide +kernel
theorem dX5_hill_4 : decode cX5_hill 4 = .ok (.invokevirtual 73, 3) := by decide +kernel
theorem dX5_hill_7 : decode cX5_hill 7 = .ok (.ifCond .ne 6, 3) := by decide +kernel
theorem dX5_hill_10 : decode cX5_hill 10 = .ok (.bipush (-103), 2) := by decide +kernel
theorem dX5_hill_12 : decode cX5_hill 12 = .ok (.ireturn, 1) := by decide +kernel
theorem dX5_hill_13 : decode cX5_hill 13 = .ok (.aload_n 0, 1) := by decide +kernel
theorem dX5_hill_14 : decode cX5_hill 14 = .ok (.getfield 19, 3) := by decide +kernel
theorem dX5_hill_17 : decode cX5_hill 17 = .ok (.aload_n 0, 1) := by decide +kernel
theorem dX5_hill_18 : decode cX5_hill 18 = .ok (.getfield 10, 3) := by decide +kernel
theorem dX5_hill_21 : decode cX5_hill 21 = .ok (.invokevirtual 77, 3) := by decide +kernel
theorem dX5_hill_24 : decode cX5_hill 24 = .ok (.aload_n 0, 1) := by decide +kernel
theorem dX5_hill_25 : decode cX5_hill 25 = .ok (.getfield 26, 3) := by decide +kernel
theorem dX5_hill_28 : decode cX5_hill 28 = .ok (.invokevirtual 81, 3) := by decide +kernel
theorem dX5_hill_31 : decode cX5_hill 31 = .ok (.iconst 0, 1) := by decide +kernel
theorem dX5_hill_32 : decode cX5_hill 32 = .ok (.istore_n 1, 1) := by decide +kernel
theorem dX5_hill_33 : decode cX5_hill 33 = .ok (.iload_n 1, 1) := by decide +kernel
theorem dX5_hill_34 : decode cX5_hill 34 = .ok (.aload_n 0, 1) := by decide +kernel
theorem dX5_hill_35 : decode cX5_hill 35 = .ok (.getfield 19, 3) := by decide +kernel
theorem dX5_hill_38 : decode cX5_hill 38 = .ok (.getfield 84, 3) := by decide +kernel
theorem dX5_hill_41 : decode cX5_hill 41 = .ok (.if_icmp .ge 39, 3) := by decide +kernel
theorem dX5_hill_44 : decode cX5_hill 44 = .ok (.aload_n 0, 1) := by decide +kernel
theorem dX5_hill_45 : decode cX5_hill 45 = .ok (.getfield 10, 3) := by decide +kernel
theorem dX5_hill_48 : decode cX5_hill 48 = .ok (.iload_n 1, 1) := by decide +kernel
theorem dX5_hill_49 : decode cX5_hill 49 = .ok (.invokevirtual 87, 3) := by decide +kernel
theorem dX5_hill_52 : decode cX5_hill 52 = .ok (.istore_n 2, 1) := by decide +kernel
theorem dX5_hill_53 : decode cX5_hill 53 = .ok (.aload_n 0, 1) := by decide +kernel
theorem dX5_hill_54 : decode cX5_hill 54 = .ok (.iload_n 1, 1) := by decide +kernel
theorem dX5_hill_55 : decode cX5_hill 55 = .ok (.aload_n 0, 1) := by decide +kernel
theorem dX5_hill_56 : decode cX5_hill 56 = .ok (.getfield 19, 3) := by decide +kernel
theorem dX5_hill_59 : decode cX5_hill 59 = .ok (.iload_n 2, 1) := by decide +kernel
theorem dX5_hill_60 : decode cX5_hill 60 = .ok (.invokevirtual 91, 3) := by decide +kernel
theorem dX5_hill_63 : decode cX5_hill 63 = .ok (.ifCond .eq 7, 3) := by decide +kernel
theorem dX5_hill_66 : decode cX5_hill 66 = .ok (.iload_n 2, 1) := by decide +kernel
theorem dX5_hill_67 : decode cX5_hill 67 = .ok (.goto 4, 3) := by decide +kernel
theorem dX5_hill_70 : decode cX5_hill 70 = .ok (.iconst (-1), 1) := by decide +kernel
theorem dX5_hill_71 : decode cX5_hill 71 = .ok (.invokevirtual 94, 3) := by decide +kernel
theorem dX5_hill_74 : decode cX5_hill 74 = .ok (.iinc 1 1, 3) := by decide +kernel
theorem dX5_hill_77 : decode cX5_hill 77 = .ok (.goto (-44), 3) := by decide +kernel
theorem dX5_hill_80 : decode cX5_hill 80 = .ok (.aload_n 0, 1) := by decide +kernel
theorem dX5_hill_81 : decode cX5_hill 81 = .ok (.iconst 0, 1) := by decide +kernel
theorem dX5_hill_82 : decode cX5_hill 82 = .ok (.putfield 51, 3) := by decide +kernel
theorem dX5_hill_85 : decode cX5_hill 85 = .ok (.aload_n 0, 1) := by decide +kernel
theorem dX5_hill_86 : decode cX5_hill 86 = .ok (.dup, 1) := by decide +kernel
theorem dX5_hill_87 : decode cX5_hill 87 = .ok (.getfield 55, 3) := by decide +kernel
theorem dX5_hill_90 : decode cX5_hill 90 = .ok (.iconst 1, 1) := by decide +kernel
theorem dX5_hill_91 : decode cX5_hill 91 = .ok (.iadd, 1) := by decide +kernel
theorem dX5_hill_92 : decode cX5_hill 92 = .ok (.putfield 55, 3) := by decide +kernel
theorem dX5_hill_95 : decode cX5_hill 95 = .ok (.aload_n 0, 1) := by decide +kernel
theorem dX5_hill_96 : decode cX5_hill 96 = .ok (.getfield 10, 3) := by decide +kernel
theorem dX5_hill_99 : decode cX5_hill 99 = .ok (.invokevirtual 66, 3) := by decide +kernel
theorem dX5_hill_102 : decode cX5_hill 102 = .ok (.aload_n 0, 1) := by decide +kernel
theorem dX5_hill_103 : decode cX5_hill 103 = .ok (.getfield 19, 3) := by decide +kernel
theorem dX5_hill_106 : decode cX5_hill 106 = .ok (.getfield 84, 3) := by decide +kernel
theorem dX5_hill_109 : decode cX5_hill 109 = .ok (.ireturn, 1) := by decide +kernel
theorem dX5_person_0 : decode cX5_person 0 = .ok (.aload_n 0, 1) := by decide +kernel
theorem dX5_person_1 : decode cX5_person 1 = .ok (.getfield 19, 3) := by decide +kernel
theorem dX5_person_4 : decode cX5_person 4 = .ok (.iload_n 1, 1) := by decide +kernel
theorem dX5_person_5 : decode cX5_person 5 = .ok (.invokevirtual 91, 3) := by decide +kernel
theorem dX5_person_8 : decode cX5_person 8 = .ok (.ifCond .ne 6, 3) := by decide +kernel
theorem dX5_person_11 : decode cX5_person 11 = .ok (.bipush (-101), 2) := by decide +kernel
theorem dX5_person_13 : decode cX5_person 13 = .ok (.ireturn, 1) := by decide +kernel
theorem dX5_person_14 : decode cX5_person 14 = .ok (.iload_n 2, 1) := by decide +kernel
theorem dX5_person_15 : decode cX5_person 15 = .ok (.tableswitch 93 0 5 #[37, 46, 55, 64, 73, 84], 37) := by decide +kernel
theorem dX5_person_52 : decode cX5_person 52 = .ok (.aload_n 0, 1) := by decide +kernel
theorem dX5_person_53 : decode cX5_person 53 = .ok (.getfield 19, 3) := by decide +kernel
theorem dX5_person_56 : decode cX5_person 56 = .ok (.iload_n 1, 1) := by decide +kernel
theorem dX5_person_57 : decode cX5_person 57 = .ok (.invokevirtual 98, 3) := by decide +kernel
theorem dX5_person_60 : decode cX5_person 60 = .ok (.ireturn, 1) := by decide +kernel
theorem dX5_person_61 : decode cX5_person 61 = .ok (.aload_n 0, 1) := by decide +kernel
theorem dX5_person_62 : decode cX5_person 62 = .ok (.getfield 26, 3) := by decide +kernel
theorem dX5_person_65 : decode cX5_person 65 = .ok (.iload_n 1, 1) := by decide +kernel
theorem dX5_person_66 : decode cX5_person 66 = .ok (.invokevirtual 101, 3) := by decide +kernel
theorem dX5_person_69 : decode cX5_person 69 = .ok (.ireturn, 1) := by decide +kernel
theorem dX5_person_70 : decode cX5_person 70 = .ok (.aload_n 0, 1) := by decide +kernel
theorem dX5_person_71 : decode cX5_person 71 = .ok (.getfield 26, 3) := by decide +kernel
theorem dX5_person_74 : decode cX5_person 74 = .ok (.iload_n 1, 1) := by decide +kernel
theorem dX5_person_75 : decode cX5_person 75 = .ok (.invokevirtual 104, 3) := by decide +kernel
theorem dX5_person_78 : decode cX5_person 78 = .ok (.ireturn, 1) := by decide +kernel
theorem dX5_person_79 : decode cX5_person 79 = .ok (.aload_n 0, 1) := by decide +kernel
theorem dX5_person_80 : decode cX5_person 80 = .ok (.getfield 26, 3) := by decide +kernel
theorem dX5_person_83 : decode cX5_person 83 = .ok (.iload_n 1, 1) := by decide +kernel
theorem dX5_person_84 : decode cX5_person 84 = .ok (.invokevirtual 107, 3) := by decide +kernel
theorem dX5_person_87 : decode cX5_person 87 = .ok (.ireturn, 1) := by decide +kernel
theorem dX5_person_88 : decode cX5_person 88 = .ok (.aload_n 0, 1) := by decide +kernel
theorem dX5_person_89 : decode cX5_person 89 = .ok (.getfield 38, 3) := by decide +kernel
theorem dX5_person_92 : decode cX5_person 92 = .ok (.iconst 1, 1) := by decide +kernel
theorem dX5_person_93 : decode cX5_person 93 = .ok (.iload_n 1, 1) := by decide +kernel
theorem dX5_person_94 : decode cX5_person 94 = .ok (.ishl, 1) := by decide +kernel
theorem dX5_person_95 : decode cX5_person 95 = .ok (.invokevirtual 110, 3) := by decide +kernel
theorem dX5_person_98 : decode cX5_person 98 = .ok (.ireturn, 1) := by decide +kernel
theorem dX5_person_99 : decode cX5_person 99 = .ok (.aload_n 0, 1) := by decide +kernel
theorem dX5_person_100 : decode cX5_person 100 = .ok (.getfield 38, 3) := by decide +kernel
theorem dX5_person_103 : decode cX5_person 103 = .ok (.iload_n 1, 1) := by decide +kernel
theorem dX5_person_104 : decode cX5_person 104 = .ok (.invokevirtual 113, 3) := by decide +kernel
theorem dX5_person_107 : decode cX5_person 107 = .ok (.ireturn, 1) := by decide +kernel
theorem dX5_person_108 : decode cX5_person 108 = .ok (.bipush (-102), 2) := by decide +kernel
theorem dX5_person_110 : decode cX5_person 110 = .ok (.ireturn, 1) := by decide +kernel
theorem dX5_as_0 : decode cX5_as 0 = .ok (.aload_n 0, 1) := by decide +kernel
theorem dX5_as_1 : decode cX5_as 1 = .ok (.getfield 19, 3) := by decide +kernel
theorem dX5_as_4 : decode cX5_as 4 = .ok (.iload_n 1, 1) := by decide +kernel
theorem dX5_as_5 : decode cX5_as 5 = .ok (.invokevirtual 91, 3) := by decide +kernel
theorem dX5_as_8 : decode cX5_as 8 = .ok (.ifCond .ne 6, 3) := by decide +kernel
theorem dX5_as_11 : decode cX5_as 11 = .ok (.bipush (-101), 2) := by decide +kernel
theorem dX5_as_13 : decode cX5_as 13 = .ok (.ireturn, 1) := by decide +kernel
theorem dX5_as_14 : decode cX5_as 14 = .ok (.iload_n 2, 1) := by decide +kernel
theorem dX5_as_15 : decode cX5_as 15 = .ok (.ifCond .lt 8, 3) := by decide +kernel
theorem dX5_as_18 : decode cX5_as 18 = .ok (.iload_n 2, 1) := by decide +kernel
theorem dX5_as_19 : decode cX5_as 19 = .ok (.iconst 5, 1) := by decide +kernel
theorem dX5_as_20 : decode cX5_as 20 = .ok (.if_icmp .lt 6, 3) := by decide +kernel
theorem dX5_as_23 : decode cX5_as 23 = .ok (.bipush (-102), 2) := by decide +kernel
theorem dX5_as_25 : decode cX5_as 25 = .ok (.ireturn, 1) := by decide +kernel
theorem dX5_as_26 : decode cX5_as 26 = .ok (.aload_n 0, 1) := by decide +kernel
theorem dX5_as_27 : decode cX5_as 27 = .ok (.getfield 19, 3) := by decide +kernel
theorem dX5_as_30 : decode cX5_as 30 = .ok (.iload_n 1, 1) := by decide +kernel
theorem dX5_as_31 : decode cX5_as 31 = .ok (.invokevirtual 98, 3) := by decide +kernel
theorem dX5_as_34 : decode cX5_as 34 = .ok (.iload_n 2, 1) := by decide +kernel
theorem dX5_as_35 : decode cX5_as 35 = .ok (.invokestatic 116, 3) := by decide +kernel
theorem dX5_as_38 : decode cX5_as 38 = .ok (.ifCond .eq 7, 3) := by decide +kernel
theorem dX5_as_41 : decode cX5_as 41 = .ok (.iload_n 1, 1) := by decide +kernel
theorem dX5_as_42 : decode cX5_as 42 = .ok (.goto 4, 3) := by decide +kernel
theorem dX5_as_45 : decode cX5_as 45 = .ok (.iconst (-1), 1) := by decide +kernel
theorem dX5_as_46 : decode cX5_as 46 = .ok (.ireturn, 1) := by decide +kernel
theorem dX5_next_0 : decode cX5_next 0 = .ok (.aload_n 0, 1) := by decide +kernel
theorem dX5_next_1 : decode cX5_next 1 = .ok (.getfield 19, 3) := by decide +kernel
theorem dX5_next_4 : decode cX5_next 4 = .ok (.iload_n 1, 1) := by decide +kernel
theorem dX5_next_5 : decode cX5_next 5 = .ok (.invokevirtual 91, 3) := by decide +kernel
theorem dX5_next_8 : decode cX5_next 8 = .ok (.ifCond .eq 19, 3) := by decide +kernel
theorem dX5_next_11 : decode cX5_next 11 = .ok (.iload_n 2, 1) := by decide +kernel
theorem dX5_next_12 : decode cX5_next 12 = .ok (.iconst (-1), 1) := by decide +kernel
theorem dX5_next_13 : decode cX5_next 13 = .ok (.if_icmp .eq 17, 3) := by decide +kernel
theorem dX5_next_16 : decode cX5_next 16 = .ok (.aload_n 0, 1) := by decide +kernel
theorem dX5_next_17 : decode cX5_next 17 = .ok (.getfield 19, 3) := by decide +kernel
theorem dX5_next_20 : decode cX5_next 20 = .ok (.iload_n 2, 1) := by decide +kernel
theorem dX5_next_21 : decode cX5_next 21 = .ok (.invokevirtual 91, 3) := by decide +kernel
theorem dX5_next_24 : decode cX5_next 24 = .ok (.ifCond .ne 6, 3) := by decide +kernel
theorem dX5_next_27 : decode cX5_next 27 = .ok (.bipush (-101), 2) := by decide +kernel
theorem dX5_next_29 : decode cX5_next 29 = .ok (.ireturn, 1) := by decide +kernel
theorem dX5_next_30 : decode cX5_next 30 = .ok (.aload_n 0, 1) := by decide +kernel
theorem dX5_next_31 : decode cX5_next 31 = .ok (.getfield 26, 3) := by decide +kernel
theorem dX5_next_34 : decode cX5_next 34 = .ok (.iload_n 1, 1) := by decide +kernel
theorem dX5_next_35 : decode cX5_next 35 = .ok (.invokevirtual 101, 3) := by decide +kernel
theorem dX5_next_38 : decode cX5_next 38 = .ok (.istore_n 3, 1) := by decide +kernel
theorem dX5_next_39 : decode cX5_next 39 = .ok (.aload_n 0, 1) := by decide +kernel
theorem dX5_next_40 : decode cX5_next 40 = .ok (.iload_n 1, 1) := by decide +kernel
theorem dX5_next_41 : decode cX5_next 41 = .ok (.iload_n 2, 1) := by decide +kernel
theorem dX5_next_42 : decode cX5_next 42 = .ok (.invokevirtual 94, 3) := by decide +kernel
theorem dX5_next_45 : decode cX5_next 45 = .ok (.aload_n 0, 1) := by decide +kernel
theorem dX5_next_46 : decode cX5_next 46 = .ok (.getfield 26, 3) := by decide +kernel
theorem dX5_next_49 : decode cX5_next 49 = .ok (.dup, 1) := by decide +kernel
theorem dX5_next_50 : decode cX5_next 50 = .ok (.getfield 120, 3) := by decide +kernel
theorem dX5_next_53 : decode cX5_next 53 = .ok (.iconst 1, 1) := by decide +kernel
theorem dX5_next_54 : decode cX5_next 54 = .ok (.iadd, 1) := by decide +kernel
theorem dX5_next_55 : decode cX5_next 55 = .ok (.putfield 120, 3) := by decide +kernel
theorem dX5_next_58 : decode cX5_next 58 = .ok (.iload_n 3, 1) := by decide +kernel
theorem dX5_next_59 : decode cX5_next 59 = .ok (.ireturn, 1) := by decide +kernel
theorem dX5_point_0 : decode cX5_point 0 = .ok (.iload_n 2, 1) := by decide +kernel
theorem dX5_point_1 : decode cX5_point 1 = .ok (.iload_n 1, 1) := by decide +kernel
theorem dX5_point_2 : decode cX5_point 2 = .ok (.if_icmp .ne 7, 3) := by decide +kernel
theorem dX5_point_5 : decode cX5_point 5 = .ok (.iconst (-1), 1) := by decide +kernel
theorem dX5_point_6 : decode cX5_point 6 = .ok (.goto 4, 3) := by decide +kernel
theorem dX5_point_9 : decode cX5_point 9 = .ok (.iload_n 2, 1) := by decide +kernel
theorem dX5_point_10 : decode cX5_point 10 = .ok (.istore_n 3, 1) := by decide +kernel
theorem dX5_point_11 : decode cX5_point 11 = .ok (.aload_n 0, 1) := by decide +kernel
theorem dX5_point_12 : decode cX5_point 12 = .ok (.getfield 26, 3) := by decide +kernel
theorem dX5_point_15 : decode cX5_point 15 = .ok (.iload_n 1, 1) := by decide +kernel
theorem dX5_point_16 : decode cX5_point 16 = .ok (.iload_n 3, 1) := by decide +kernel
theorem dX5_point_17 : decode cX5_point 17 = .ok (.aload_n 0, 1) := by decide +kernel
theorem dX5_point_18 : decode cX5_point 18 = .ok (.getfield 19, 3) := by decide +kernel
theorem dX5_point_21 : decode cX5_point 21 = .ok (.iload_n 1, 1) := by decide +kernel
theorem dX5_point_22 : decode cX5_point 22 = .ok (.iload_n 3, 1) := by decide +kernel
theorem dX5_point_23 : decode cX5_point 23 = .ok (.invokevirtual 123, 3) := by decide +kernel
theorem dX5_point_26 : decode cX5_point 26 = .ok (.invokevirtual 127, 3) := by decide +kernel
theorem dX5_point_29 : decode cX5_point 29 = .ok (.return_, 1) := by decide +kernel
theorem dX5_tell_0 : decode cX5_tell 0 = .ok (.aload_n 0, 1) := by decide +kernel
theorem dX5_tell_1 : decode cX5_tell 1 = .ok (.iload_n 1, 1) := by decide +kernel
theorem dX5_tell_2 : decode cX5_tell 2 = .ok (.invokevirtual 131, 3) := by decide +kernel
theorem dX5_tell_5 : decode cX5_tell 5 = .ok (.ifCond .eq 14, 3) := by decide +kernel
theorem dX5_tell_8 : decode cX5_tell 8 = .ok (.aload_n 0, 1) := by decide +kernel
theorem dX5_tell_9 : decode cX5_tell 9 = .ok (.getfield 19, 3) := by decide +kernel
theorem dX5_tell_12 : decode cX5_tell 12 = .ok (.iload_n 2, 1) := by decide +kernel
theorem dX5_tell_13 : decode cX5_tell 13 = .ok (.invokevirtual 91, 3) := by decide +kernel
theorem dX5_tell_16 : decode cX5_tell 16 = .ok (.ifCond .ne 6, 3) := by decide +kernel
theorem dX5_tell_19 : decode cX5_tell 19 = .ok (.bipush (-101), 2) := by decide +kernel
theorem dX5_tell_21 : decode cX5_tell 21 = .ok (.ireturn, 1) := by decide +kernel
theorem dX5_tell_22 : decode cX5_tell 22 = .ok (.iconst 1, 1) := by decide +kernel
theorem dX5_tell_23 : decode cX5_tell 23 = .ok (.iload_n 2, 1) := by decide +kernel
theorem dX5_tell_24 : decode cX5_tell 24 = .ok (.ishl, 1) := by decide +kernel
theorem dX5_tell_25 : decode cX5_tell 25 = .ok (.istore_n 3, 1) := by decide +kernel
theorem dX5_tell_26 : decode cX5_tell 26 = .ok (.aload_n 0, 1) := by decide +kernel
theorem dX5_tell_27 : decode cX5_tell 27 = .ok (.getfield 26, 3) := by decide +kernel
theorem dX5_tell_30 : decode cX5_tell 30 = .ok (.getfield 134, 3) := by decide +kernel
theorem dX5_tell_33 : decode cX5_tell 33 = .ok (.iload_n 1, 1) := by decide +kernel
theorem dX5_tell_34 : decode cX5_tell 34 = .ok (.iaload, 1) := by decide +kernel
theorem dX5_tell_35 : decode cX5_tell 35 = .ok (.iload_n 3, 1) := by decide +kernel
theorem dX5_tell_36 : decode cX5_tell 36 = .ok (.iand, 1) := by decide +kernel
theorem dX5_tell_37 : decode cX5_tell 37 = .ok (.ifCond .eq 6, 3) := by decide +kernel
theorem dX5_tell_40 : decode cX5_tell 40 = .ok (.bipush (-103), 2) := by decide +kernel
theorem dX5_tell_42 : decode cX5_tell 42 = .ok (.ireturn, 1) := by decide +kernel
theorem dX5_tell_43 : decode cX5_tell 43 = .ok (.aload_n 0, 1) := by decide +kernel
theorem dX5_tell_44 : decode cX5_tell 44 = .ok (.getfield 26, 3) := by decide +kernel
theorem dX5_tell_47 : decode cX5_tell 47 = .ok (.getfield 134, 3) := by decide +kernel
theorem dX5_tell_50 : decode cX5_tell 50 = .ok (.iload_n 1, 1) := by decide +kernel
theorem dX5_tell_51 : decode cX5_tell 51 = .ok (.dup2, 1) := by decide +kernel
theorem dX5_tell_52 : decode cX5_tell 52 = .ok (.iaload, 1) := by decide +kernel
theorem dX5_tell_53 : decode cX5_tell 53 = .ok (.iload_n 3, 1) := by decide +kernel
theorem dX5_tell_54 : decode cX5_tell 54 = .ok (.ior, 1) := by decide +kernel
theorem dX5_tell_55 : decode cX5_tell 55 = .ok (.iastore, 1) := by decide +kernel
theorem dX5_tell_56 : decode cX5_tell 56 = .ok (.aload_n 0, 1) := by decide +kernel
theorem dX5_tell_57 : decode cX5_tell 57 = .ok (.getfield 26, 3) := by decide +kernel
theorem dX5_tell_60 : decode cX5_tell 60 = .ok (.getfield 138, 3) := by decide +kernel
theorem dX5_tell_63 : decode cX5_tell 63 = .ok (.iload_n 1, 1) := by decide +kernel
theorem dX5_tell_64 : decode cX5_tell 64 = .ok (.dup2, 1) := by decide +kernel
theorem dX5_tell_65 : decode cX5_tell 65 = .ok (.iaload, 1) := by decide +kernel
theorem dX5_tell_66 : decode cX5_tell 66 = .ok (.iload_n 3, 1) := by decide +kernel
theorem dX5_tell_67 : decode cX5_tell 67 = .ok (.ior, 1) := by decide +kernel
theorem dX5_tell_68 : decode cX5_tell 68 = .ok (.iastore, 1) := by decide +kernel
theorem dX5_tell_69 : decode cX5_tell 69 = .ok (.aload_n 0, 1) := by decide +kernel
theorem dX5_tell_70 : decode cX5_tell 70 = .ok (.iload_n 1, 1) := by decide +kernel
theorem dX5_tell_71 : decode cX5_tell 71 = .ok (.invokevirtual 141, 3) := by decide +kernel
theorem dX5_tell_74 : decode cX5_tell 74 = .ok (.ireturn, 1) := by decide +kernel
theorem dX5_day_0 : decode cX5_day 0 = .ok (.aload_n 0, 1) := by decide +kernel
theorem dX5_day_1 : decode cX5_day 1 = .ok (.getfield 19, 3) := by decide +kernel
theorem dX5_day_4 : decode cX5_day 4 = .ok (.invokevirtual 144, 3) := by decide +kernel
theorem dX5_day_7 : decode cX5_day 7 = .ok (.ifCond .ne 6, 3) := by decide +kernel
theorem dX5_day_10 : decode cX5_day 10 = .ok (.bipush (-103), 2) := by decide +kernel
theorem dX5_day_12 : decode cX5_day 12 = .ok (.ireturn, 1) := by decide +kernel
theorem dX5_day_13 : decode cX5_day 13 = .ok (.aload_n 0, 1) := by decide +kernel
theorem dX5_day_14 : decode cX5_day 14 = .ok (.getfield 26, 3) := by decide +kernel
theorem dX5_day_17 : decode cX5_day 17 = .ok (.getfield 147, 3) := by decide +kernel
theorem dX5_day_20 : decode cX5_day 20 = .ok (.bipush 99, 2) := by decide +kernel
theorem dX5_day_22 : decode cX5_day 22 = .ok (.if_icmp .lt 6, 3) := by decide +kernel
theorem dX5_day_25 : decode cX5_day 25 = .ok (.bipush (-104), 2) := by decide +kernel
theorem dX5_day_27 : decode cX5_day 27 = .ok (.ireturn, 1) := by decide +kernel
theorem dX5_day_28 : decode cX5_day 28 = .ok (.aload_n 0, 1) := by decide +kernel
theorem dX5_day_29 : decode cX5_day 29 = .ok (.getfield 26, 3) := by decide +kernel
theorem dX5_day_32 : decode cX5_day 32 = .ok (.dup, 1) := by decide +kernel
theorem dX5_day_33 : decode cX5_day 33 = .ok (.getfield 147, 3) := by decide +kernel
theorem dX5_day_36 : decode cX5_day 36 = .ok (.iconst 1, 1) := by decide +kernel
theorem dX5_day_37 : decode cX5_day 37 = .ok (.iadd, 1) := by decide +kernel
theorem dX5_day_38 : decode cX5_day 38 = .ok (.putfield 147, 3) := by decide +kernel
theorem dX5_day_41 : decode cX5_day 41 = .ok (.iconst 0, 1) := by decide +kernel
theorem dX5_day_42 : decode cX5_day 42 = .ok (.istore_n 1, 1) := by decide +kernel
theorem dX5_day_43 : decode cX5_day 43 = .ok (.iconst 0, 1) := by decide +kernel
theorem dX5_day_44 : decode cX5_day 44 = .ok (.istore_n 2, 1) := by decide +kernel
theorem dX5_day_45 : decode cX5_day 45 = .ok (.iload_n 2, 1) := by decide +kernel
theorem dX5_day_46 : decode cX5_day 46 = .ok (.iconst 3, 1) := by decide +kernel
theorem dX5_day_47 : decode cX5_day 47 = .ok (.if_icmp .ge 79, 3) := by decide +kernel
theorem dX5_day_50 : decode cX5_day 50 = .ok (.aload_n 0, 1) := by decide +kernel
theorem dX5_day_51 : decode cX5_day 51 = .ok (.getfield 26, 3) := by decide +kernel
theorem dX5_day_54 : decode cX5_day 54 = .ok (.getfield 138, 3) := by decide +kernel
theorem dX5_day_57 : decode cX5_day 57 = .ok (.iload_n 2, 1) := by decide +kernel
theorem dX5_day_58 : decode cX5_day 58 = .ok (.aload_n 0, 1) := by decide +kernel
theorem dX5_day_59 : decode cX5_day 59 = .ok (.getfield 38, 3) := by decide +kernel
theorem dX5_day_62 : decode cX5_day 62 = .ok (.aload_n 0, 1) := by decide +kernel
theorem dX5_day_63 : decode cX5_day 63 = .ok (.getfield 26, 3) := by decide +kernel
theorem dX5_day_66 : decode cX5_day 66 = .ok (.getfield 134, 3) := by decide +kernel
theorem dX5_day_69 : decode cX5_day 69 = .ok (.iload_n 2, 1) := by decide +kernel
theorem dX5_day_70 : decode cX5_day 70 = .ok (.iaload, 1) := by decide +kernel
theorem dX5_day_71 : decode cX5_day 71 = .ok (.aload_n 0, 1) := by decide +kernel
theorem dX5_day_72 : decode cX5_day 72 = .ok (.getfield 26, 3) := by decide +kernel
theorem dX5_day_75 : decode cX5_day 75 = .ok (.getfield 138, 3) := by decide +kernel
theorem dX5_day_78 : decode cX5_day 78 = .ok (.iload_n 2, 1) := by decide +kernel
theorem dX5_day_79 : decode cX5_day 79 = .ok (.iaload, 1) := by decide +kernel
theorem dX5_day_80 : decode cX5_day 80 = .ok (.invokevirtual 150, 3) := by decide +kernel
theorem dX5_day_83 : decode cX5_day 83 = .ok (.iastore, 1) := by decide +kernel
theorem dX5_day_84 : decode cX5_day 84 = .ok (.aload_n 0, 1) := by decide +kernel
theorem dX5_day_85 : decode cX5_day 85 = .ok (.getfield 26, 3) := by decide +kernel
theorem dX5_day_88 : decode cX5_day 88 = .ok (.getfield 134, 3) := by decide +kernel
theorem dX5_day_91 : decode cX5_day 91 = .ok (.iload_n 2, 1) := by decide +kernel
theorem dX5_day_92 : decode cX5_day 92 = .ok (.dup2, 1) := by decide +kernel
theorem dX5_day_93 : decode cX5_day 93 = .ok (.iaload, 1) := by decide +kernel
theorem dX5_day_94 : decode cX5_day 94 = .ok (.aload_n 0, 1) := by decide +kernel
theorem dX5_day_95 : decode cX5_day 95 = .ok (.getfield 26, 3) := by decide +kernel
theorem dX5_day_98 : decode cX5_day 98 = .ok (.getfield 138, 3) := by decide +kernel
theorem dX5_day_101 : decode cX5_day 101 = .ok (.iload_n 2, 1) := by decide +kernel
theorem dX5_day_102 : decode cX5_day 102 = .ok (.iaload, 1) := by decide +kernel
theorem dX5_day_103 : decode cX5_day 103 = .ok (.ior, 1) := by decide +kernel
theorem dX5_day_104 : decode cX5_day 104 = .ok (.iastore, 1) := by decide +kernel
theorem dX5_day_105 : decode cX5_day 105 = .ok (.iload_n 1, 1) := by decide +kernel
theorem dX5_day_106 : decode cX5_day 106 = .ok (.aload_n 0, 1) := by decide +kernel
theorem dX5_day_107 : decode cX5_day 107 = .ok (.getfield 26, 3) := by decide +kernel
theorem dX5_day_110 : decode cX5_day 110 = .ok (.getfield 138, 3) := by decide +kernel
theorem dX5_day_113 : decode cX5_day 113 = .ok (.iload_n 2, 1) := by decide +kernel
theorem dX5_day_114 : decode cX5_day 114 = .ok (.iaload, 1) := by decide +kernel
theorem dX5_day_115 : decode cX5_day 115 = .ok (.invokestatic 153, 3) := by decide +kernel
theorem dX5_day_118 : decode cX5_day 118 = .ok (.iadd, 1) := by decide +kernel
theorem dX5_day_119 : decode cX5_day 119 = .ok (.istore_n 1, 1) := by decide +kernel
theorem dX5_day_120 : decode cX5_day 120 = .ok (.iinc 2 1, 3) := by decide +kernel
theorem dX5_day_123 : decode cX5_day 123 = .ok (.goto (-78), 3) := by decide +kernel
theorem dX5_day_126 : decode cX5_day 126 = .ok (.iload_n 1, 1) := by decide +kernel
theorem dX5_day_127 : decode cX5_day 127 = .ok (.ireturn, 1) := by decide +kernel
theorem dX5_deny_0 : decode cX5_deny 0 = .ok (.aload_n 0, 1) := by decide +kernel
theorem dX5_deny_1 : decode cX5_deny 1 = .ok (.iload_n 1, 1) := by decide +kernel
theorem dX5_deny_2 : decode cX5_deny 2 = .ok (.invokevirtual 131, 3) := by decide +kernel
theorem dX5_deny_5 : decode cX5_deny 5 = .ok (.ifCond .ne 6, 3) := by decide +kernel
theorem dX5_deny_8 : decode cX5_deny 8 = .ok (.bipush (-101), 2) := by decide +kernel
theorem dX5_deny_10 : decode cX5_deny 10 = .ok (.ireturn, 1) := by decide +kernel
theorem dX5_deny_11 : decode cX5_deny 11 = .ok (.aload_n 0, 1) := by decide +kernel
theorem dX5_deny_12 : decode cX5_deny 12 = .ok (.getfield 26, 3) := by decide +kernel
theorem dX5_deny_15 : decode cX5_deny 15 = .ok (.getfield 158, 3) := by decide +kernel
theorem dX5_deny_18 : decode cX5_deny 18 = .ok (.iload_n 1, 1) := by decide +kernel
theorem dX5_deny_19 : decode cX5_deny 19 = .ok (.iaload, 1) := by decide +kernel
theorem dX5_deny_20 : decode cX5_deny 20 = .ok (.bipush 9, 2) := by decide +kernel
theorem dX5_deny_22 : decode cX5_deny 22 = .ok (.if_icmp .lt 6, 3) := by decide +kernel
theorem dX5_deny_25 : decode cX5_deny 25 = .ok (.bipush (-104), 2) := by decide +kernel
theorem dX5_deny_27 : decode cX5_deny 27 = .ok (.ireturn, 1) := by decide +kernel
theorem dX5_deny_28 : decode cX5_deny 28 = .ok (.aload_n 0, 1) := by decide +kernel
theorem dX5_deny_29 : decode cX5_deny 29 = .ok (.getfield 26, 3) := by decide +kernel
theorem dX5_deny_32 : decode cX5_deny 32 = .ok (.getfield 158, 3) := by decide +kernel
theorem dX5_deny_35 : decode cX5_deny 35 = .ok (.iload_n 1, 1) := by decide +kernel
theorem dX5_deny_36 : decode cX5_deny 36 = .ok (.dup2, 1) := by decide +kernel
theorem dX5_deny_37 : decode cX5_deny 37 = .ok (.iaload, 1) := by decide +kernel
theorem dX5_deny_38 : decode cX5_deny 38 = .ok (.iconst 1, 1) := by decide +kernel
theorem dX5_deny_39 : decode cX5_deny 39 = .ok (.iadd, 1) := by decide +kernel
theorem dX5_deny_40 : decode cX5_deny 40 = .ok (.iastore, 1) := by decide +kernel
theorem dX5_deny_41 : decode cX5_deny 41 = .ok (.aload_n 0, 1) := by decide +kernel
theorem dX5_deny_42 : decode cX5_deny 42 = .ok (.iload_n 1, 1) := by decide +kernel
theorem dX5_deny_43 : decode cX5_deny 43 = .ok (.invokevirtual 141, 3) := by decide +kernel
theorem dX5_deny_46 : decode cX5_deny 46 = .ok (.ireturn, 1) := by decide +kernel
theorem dX5_tunnel_0 : decode cX5_tunnel 0 = .ok (.aload_n 0, 1) := by decide +kernel
theorem dX5_tunnel_1 : decode cX5_tunnel 1 = .ok (.iload_n 1, 1) := by decide +kernel
theorem dX5_tunnel_2 : decode cX5_tunnel 2 = .ok (.invokevirtual 131, 3) := by decide +kernel
theorem dX5_tunnel_5 : decode cX5_tunnel 5 = .ok (.ifCond .ne 6, 3) := by decide +kernel
theorem dX5_tunnel_8 : decode cX5_tunnel 8 = .ok (.bipush (-101), 2) := by decide +kernel
theorem dX5_tunnel_10 : decode cX5_tunnel 10 = .ok (.ireturn, 1) := by decide +kernel
theorem dX5_tunnel_11 : decode cX5_tunnel 11 = .ok (.iload_n 2, 1) := by decide +kernel
theorem dX5_tunnel_12 : decode cX5_tunnel 12 = .ok (.tableswitch 107 0 4 #[36, 42, 52, 62, 72], 36) := by decide +kernel
theorem dX5_tunnel_48 : decode cX5_tunnel 48 = .ok (.aload_n 0, 1) := by decide +kernel
theorem dX5_tunnel_49 : decode cX5_tunnel 49 = .ok (.iload_n 1, 1) := by decide +kernel
theorem dX5_tunnel_50 : decode cX5_tunnel 50 = .ok (.invokevirtual 141, 3) := by decide +kernel
theorem dX5_tunnel_53 : decode cX5_tunnel 53 = .ok (.ireturn, 1) := by decide +kernel
theorem dX5_tunnel_54 : decode cX5_tunnel 54 = .ok (.aload_n 0, 1) := by decide +kernel
theorem dX5_tunnel_55 : decode cX5_tunnel 55 = .ok (.getfield 26, 3) := by decide +kernel
theorem dX5_tunnel_58 : decode cX5_tunnel 58 = .ok (.getfield 134, 3) := by decide +kernel
theorem dX5_tunnel_61 : decode cX5_tunnel 61 = .ok (.iload_n 1, 1) := by decide +kernel
theorem dX5_tunnel_62 : decode cX5_tunnel 62 = .ok (.iaload, 1) := by decide +kernel
theorem dX5_tunnel_63 : decode cX5_tunnel 63 = .ok (.ireturn, 1) := by decide +kernel
theorem dX5_tunnel_64 : decode cX5_tunnel 64 = .ok (.aload_n 0, 1) := by decide +kernel
theorem dX5_tunnel_65 : decode cX5_tunnel 65 = .ok (.getfield 26, 3) := by decide +kernel
theorem dX5_tunnel_68 : decode cX5_tunnel 68 = .ok (.getfield 138, 3) := by decide +kernel
theorem dX5_tunnel_71 : decode cX5_tunnel 71 = .ok (.iload_n 1, 1) := by decide +kernel
theorem dX5_tunnel_72 : decode cX5_tunnel 72 = .ok (.iaload, 1) := by decide +kernel
theorem dX5_tunnel_73 : decode cX5_tunnel 73 = .ok (.ireturn, 1) := by decide +kernel
theorem dX5_tunnel_74 : decode cX5_tunnel 74 = .ok (.aload_n 0, 1) := by decide +kernel
theorem dX5_tunnel_75 : decode cX5_tunnel 75 = .ok (.getfield 26, 3) := by decide +kernel
theorem dX5_tunnel_78 : decode cX5_tunnel 78 = .ok (.getfield 158, 3) := by decide +kernel
theorem dX5_tunnel_81 : decode cX5_tunnel 81 = .ok (.iload_n 1, 1) := by decide +kernel
theorem dX5_tunnel_82 : decode cX5_tunnel 82 = .ok (.iaload, 1) := by decide +kernel
theorem dX5_tunnel_83 : decode cX5_tunnel 83 = .ok (.ireturn, 1) := by decide +kernel
theorem dX5_tunnel_84 : decode cX5_tunnel 84 = .ok (.aload_n 0, 1) := by decide +kernel
theorem dX5_tunnel_85 : decode cX5_tunnel 85 = .ok (.getfield 38, 3) := by decide +kernel
theorem dX5_tunnel_88 : decode cX5_tunnel 88 = .ok (.aload_n 0, 1) := by decide +kernel
theorem dX5_tunnel_89 : decode cX5_tunnel 89 = .ok (.getfield 26, 3) := by decide +kernel
theorem dX5_tunnel_92 : decode cX5_tunnel 92 = .ok (.getfield 134, 3) := by decide +kernel
theorem dX5_tunnel_95 : decode cX5_tunnel 95 = .ok (.iload_n 1, 1) := by decide +kernel
theorem dX5_tunnel_96 : decode cX5_tunnel 96 = .ok (.iaload, 1) := by decide +kernel
theorem dX5_tunnel_97 : decode cX5_tunnel 97 = .ok (.aload_n 0, 1) := by decide +kernel
theorem dX5_tunnel_98 : decode cX5_tunnel 98 = .ok (.getfield 26, 3) := by decide +kernel
theorem dX5_tunnel_101 : decode cX5_tunnel 101 = .ok (.getfield 138, 3) := by decide +kernel
theorem dX5_tunnel_104 : decode cX5_tunnel 104 = .ok (.iload_n 1, 1) := by decide +kernel
theorem dX5_tunnel_105 : decode cX5_tunnel 105 = .ok (.iaload, 1) := by decide +kernel
theorem dX5_tunnel_106 : decode cX5_tunnel 106 = .ok (.aload_n 0, 1) := by decide +kernel
theorem dX5_tunnel_107 : decode cX5_tunnel 107 = .ok (.getfield 26, 3) := by decide +kernel
theorem dX5_tunnel_110 : decode cX5_tunnel 110 = .ok (.getfield 158, 3) := by decide +kernel
theorem dX5_tunnel_113 : decode cX5_tunnel 113 = .ok (.iload_n 1, 1) := by decide +kernel
theorem dX5_tunnel_114 : decode cX5_tunnel 114 = .ok (.iaload, 1) := by decide +kernel
theorem dX5_tunnel_115 : decode cX5_tunnel 115 = .ok (.invokevirtual 161, 3) := by decide +kernel
theorem dX5_tunnel_118 : decode cX5_tunnel 118 = .ok (.ireturn, 1) := by decide +kernel
theorem dX5_tunnel_119 : decode cX5_tunnel 119 = .ok (.bipush (-102), 2) := by decide +kernel
theorem dX5_tunnel_121 : decode cX5_tunnel 121 = .ok (.ireturn, 1) := by decide +kernel
theorem dX5_isTunnel_0 : decode cX5_isTunnel 0 = .ok (.aload_n 0, 1) := by decide +kernel
theorem dX5_isTunnel_1 : decode cX5_isTunnel 1 = .ok (.getfield 19, 3) := by decide +kernel
theorem dX5_isTunnel_4 : decode cX5_isTunnel 4 = .ok (.invokevirtual 144, 3) := by decide +kernel
theorem dX5_isTunnel_7 : decode cX5_isTunnel 7 = .ok (.ifCond .eq 16, 3) := by decide +kernel
theorem dX5_isTunnel_10 : decode cX5_isTunnel 10 = .ok (.iload_n 1, 1) := by decide +kernel
theorem dX5_isTunnel_11 : decode cX5_isTunnel 11 = .ok (.ifCond .lt 12, 3) := by decide +kernel
theorem dX5_isTunnel_14 : decode cX5_isTunnel 14 = .ok (.iload_n 1, 1) := by decide +kernel
theorem dX5_isTunnel_15 : decode cX5_isTunnel 15 = .ok (.iconst 3, 1) := by decide +kernel
theorem dX5_isTunnel_16 : decode cX5_isTunnel 16 = .ok (.if_icmp .ge 7, 3) := by decide +kernel
theorem dX5_isTunnel_19 : decode cX5_isTunnel 19 = .ok (.iconst 1, 1) := by decide +kernel
theorem dX5_isTunnel_20 : decode cX5_isTunnel 20 = .ok (.goto 4, 3) := by decide +kernel
theorem dX5_isTunnel_23 : decode cX5_isTunnel 23 = .ok (.iconst 0, 1) := by decide +kernel
theorem dX5_isTunnel_24 : decode cX5_isTunnel 24 = .ok (.ireturn, 1) := by decide +kernel
theorem dX5_lengthOf_0 : decode cX5_lengthOf 0 = .ok (.aload_n 0, 1) := by decide +kernel
theorem dX5_lengthOf_1 : decode cX5_lengthOf 1 = .ok (.getfield 19, 3) := by decide +kernel
theorem dX5_lengthOf_4 : decode cX5_lengthOf 4 = .ok (.aload_n 0, 1) := by decide +kernel
theorem dX5_lengthOf_5 : decode cX5_lengthOf 5 = .ok (.getfield 26, 3) := by decide +kernel
theorem dX5_lengthOf_8 : decode cX5_lengthOf 8 = .ok (.getfield 134, 3) := by decide +kernel
theorem dX5_lengthOf_11 : decode cX5_lengthOf 11 = .ok (.iload_n 1, 1) := by decide +kernel
theorem dX5_lengthOf_12 : decode cX5_lengthOf 12 = .ok (.iaload, 1) := by decide +kernel
theorem dX5_lengthOf_13 : decode cX5_lengthOf 13 = .ok (.aload_n 0, 1) := by decide +kernel
theorem dX5_lengthOf_14 : decode cX5_lengthOf 14 = .ok (.getfield 26, 3) := by decide +kernel
theorem dX5_lengthOf_17 : decode cX5_lengthOf 17 = .ok (.getfield 158, 3) := by decide +kernel
theorem dX5_lengthOf_20 : decode cX5_lengthOf 20 = .ok (.iload_n 1, 1) := by decide +kernel
theorem dX5_lengthOf_21 : decode cX5_lengthOf 21 = .ok (.iaload, 1) := by decide +kernel
theorem dX5_lengthOf_22 : decode cX5_lengthOf 22 = .ok (.invokevirtual 165, 3) := by decide +kernel
theorem dX5_lengthOf_25 : decode cX5_lengthOf 25 = .ok (.ireturn, 1) := by decide +kernel
theorem dX5_aim_0 : decode cX5_aim 0 = .ok (.iload_n 1, 1) := by decide +kernel
theorem dX5_aim_1 : decode cX5_aim 1 = .ok (.iconst 1, 1) := by decide +kernel
theorem dX5_aim_2 : decode cX5_aim 2 = .ok (.if_icmp .lt 18, 3) := by decide +kernel
theorem dX5_aim_5 : decode cX5_aim 5 = .ok (.iload_n 1, 1) := by decide +kernel
theorem dX5_aim_6 : decode cX5_aim 6 = .ok (.bipush 12, 2) := by decide +kernel
theorem dX5_aim_8 : decode cX5_aim 8 = .ok (.if_icmp .gt 12, 3) := by decide +kernel
theorem dX5_aim_11 : decode cX5_aim 11 = .ok (.iload_n 2, 1) := by decide +kernel
theorem dX5_aim_12 : decode cX5_aim 12 = .ok (.ifCond .lt 8, 3) := by decide +kernel
theorem dX5_aim_15 : decode cX5_aim 15 = .ok (.iload_n 2, 1) := by decide +kernel
theorem dX5_aim_16 : decode cX5_aim 16 = .ok (.iconst 2, 1) := by decide +kernel
theorem dX5_aim_17 : decode cX5_aim 17 = .ok (.if_icmp .lt 6, 3) := by decide +kernel
theorem dX5_aim_20 : decode cX5_aim 20 = .ok (.bipush (-102), 2) := by decide +kernel
theorem dX5_aim_22 : decode cX5_aim 22 = .ok (.ireturn, 1) := by decide +kernel
theorem dX5_aim_23 : decode cX5_aim 23 = .ok (.aload_n 0, 1) := by decide +kernel
theorem dX5_aim_24 : decode cX5_aim 24 = .ok (.getfield 19, 3) := by decide +kernel
theorem dX5_aim_27 : decode cX5_aim 27 = .ok (.invokevirtual 144, 3) := by decide +kernel
theorem dX5_aim_30 : decode cX5_aim 30 = .ok (.ifCond .ne 6, 3) := by decide +kernel
theorem dX5_aim_33 : decode cX5_aim 33 = .ok (.bipush (-103), 2) := by decide +kernel
theorem dX5_aim_35 : decode cX5_aim 35 = .ok (.ireturn, 1) := by decide +kernel
theorem dX5_aim_36 : decode cX5_aim 36 = .ok (.aload_n 0, 1) := by decide +kernel
theorem dX5_aim_37 : decode cX5_aim 37 = .ok (.iload_n 1, 1) := by decide +kernel
theorem dX5_aim_38 : decode cX5_aim 38 = .ok (.invokevirtual 167, 3) := by decide +kernel
theorem dX5_aim_41 : decode cX5_aim 41 = .ok (.istore_n 3, 1) := by decide +kernel
theorem dX5_aim_42 : decode cX5_aim 42 = .ok (.iload_n 3, 1) := by decide +kernel
theorem dX5_aim_43 : decode cX5_aim 43 = .ok (.ifCond .ne 5, 3) := by decide +kernel
theorem dX5_aim_46 : decode cX5_aim 46 = .ok (.iconst (-1), 1) := by decide +kernel
theorem dX5_aim_47 : decode cX5_aim 47 = .ok (.ireturn, 1) := by decide +kernel
theorem dX5_aim_48 : decode cX5_aim 48 = .ok (.iload_n 2, 1) := by decide +kernel
theorem dX5_aim_49 : decode cX5_aim 49 = .ok (.ifCond .ne 10, 3) := by decide +kernel
theorem dX5_aim_52 : decode cX5_aim 52 = .ok (.iload_n 3, 1) := by decide +kernel
theorem dX5_aim_53 : decode cX5_aim 53 = .ok (.invokestatic 153, 3) := by decide +kernel
theorem dX5_aim_56 : decode cX5_aim 56 = .ok (.goto 4, 3) := by decide +kernel
theorem dX5_aim_59 : decode cX5_aim 59 = .ok (.iload_n 3, 1) := by decide +kernel
theorem dX5_aim_60 : decode cX5_aim 60 = .ok (.ireturn, 1) := by decide +kernel
theorem dX5_fewestToTell_0 : decode cX5_fewestToTell 0 = .ok (.iconst 0, 1) := by decide +kernel
theorem dX5_fewestToTell_1 : decode cX5_fewestToTell 1 = .ok (.istore_n 2, 1) := by decide +kernel
theorem dX5_fewestToTell_2 : decode cX5_fewestToTell 2 = .ok (.aload_n 0, 1) := by decide +kernel
theorem dX5_fewestToTell_3 : decode cX5_fewestToTell 3 = .ok (.getfield 19, 3) := by decide +kernel
theorem dX5_fewestToTell_6 : decode cX5_fewestToTell 6 = .ok (.getfield 84, 3) := by decide +kernel
theorem dX5_fewestToTell_9 : decode cX5_fewestToTell 9 = .ok (.iconst 1, 1) := by decide +kernel
theorem dX5_fewestToTell_10 : decode cX5_fewestToTell 10 = .ok (.iadd, 1) := by decide +kernel
theorem dX5_fewestToTell_11 : decode cX5_fewestToTell 11 = .ok (.istore_n 3, 1) := by decide +kernel
theorem dX5_fewestToTell_12 : decode cX5_fewestToTell 12 = .ok (.iconst 1, 1) := by decide +kernel
theorem dX5_fewestToTell_13 : decode cX5_fewestToTell 13 = .ok (.istore 4, 2) := by decide +kernel
theorem dX5_fewestToTell_15 : decode cX5_fewestToTell 15 = .ok (.iload 4, 2) := by decide +kernel
theorem dX5_fewestToTell_17 : decode cX5_fewestToTell 17 = .ok (.iconst 1, 1) := by decide +kernel
theorem dX5_fewestToTell_18 : decode cX5_fewestToTell 18 = .ok (.aload_n 0, 1) := by decide +kernel
theorem dX5_fewestToTell_19 : decode cX5_fewestToTell 19 = .ok (.getfield 19, 3) := by decide +kernel
theorem dX5_fewestToTell_22 : decode cX5_fewestToTell 22 = .ok (.getfield 84, 3) := by decide +kernel
theorem dX5_fewestToTell_25 : decode cX5_fewestToTell 25 = .ok (.ishl, 1) := by decide +kernel
theorem dX5_fewestToTell_26 : decode cX5_fewestToTell 26 = .ok (.if_icmp .ge 40, 3) := by decide +kernel
theorem dX5_fewestToTell_29 : decode cX5_fewestToTell 29 = .ok (.iload 4, 2) := by decide +kernel
theorem dX5_fewestToTell_31 : decode cX5_fewestToTell 31 = .ok (.invokestatic 153, 3) := by decide +kernel
theorem dX5_fewestToTell_34 : decode cX5_fewestToTell 34 = .ok (.iload_n 3, 1) := by decide +kernel
theorem dX5_fewestToTell_35 : decode cX5_fewestToTell 35 = .ok (.if_icmp .ge 25, 3) := by decide +kernel
theorem dX5_fewestToTell_38 : decode cX5_fewestToTell 38 = .ok (.aload_n 0, 1) := by decide +kernel
theorem dX5_fewestToTell_39 : decode cX5_fewestToTell 39 = .ok (.getfield 38, 3) := by decide +kernel
theorem dX5_fewestToTell_42 : decode cX5_fewestToTell 42 = .ok (.iload 4, 2) := by decide +kernel
theorem dX5_fewestToTell_44 : decode cX5_fewestToTell 44 = .ok (.invokevirtual 110, 3) := by decide +kernel
theorem dX5_fewestToTell_47 : decode cX5_fewestToTell 47 = .ok (.iload_n 1, 1) := by decide +kernel
theorem dX5_fewestToTell_48 : decode cX5_fewestToTell 48 = .ok (.if_icmp .ne 12, 3) := by decide +kernel
theorem dX5_fewestToTell_51 : decode cX5_fewestToTell 51 = .ok (.iload 4, 2) := by decide +kernel
theorem dX5_fewestToTell_53 : decode cX5_fewestToTell 53 = .ok (.istore_n 2, 1) := by decide +kernel
theorem dX5_fewestToTell_54 : decode cX5_fewestToTell 54 = .ok (.iload 4, 2) := by decide +kernel
theorem dX5_fewestToTell_56 : decode cX5_fewestToTell 56 = .ok (.invokestatic 153, 3) := by decide +kernel
theorem dX5_fewestToTell_59 : decode cX5_fewestToTell 59 = .ok (.istore_n 3, 1) := by decide +kernel
theorem dX5_fewestToTell_60 : decode cX5_fewestToTell 60 = .ok (.iinc 4 1, 3) := by decide +kernel
theorem dX5_fewestToTell_63 : decode cX5_fewestToTell 63 = .ok (.goto (-48), 3) := by decide +kernel
theorem dX5_fewestToTell_66 : decode cX5_fewestToTell 66 = .ok (.iload_n 2, 1) := by decide +kernel
theorem dX5_fewestToTell_67 : decode cX5_fewestToTell 67 = .ok (.ireturn, 1) := by decide +kernel
theorem dX5_heard_0 : decode cX5_heard 0 = .ok (.aload_n 0, 1) := by decide +kernel
theorem dX5_heard_1 : decode cX5_heard 1 = .ok (.getfield 19, 3) := by decide +kernel
theorem dX5_heard_4 : decode cX5_heard 4 = .ok (.iload_n 1, 1) := by decide +kernel
theorem dX5_heard_5 : decode cX5_heard 5 = .ok (.invokevirtual 91, 3) := by decide +kernel
theorem dX5_heard_8 : decode cX5_heard 8 = .ok (.ifCond .ne 6, 3) := by decide +kernel
theorem dX5_heard_11 : decode cX5_heard 11 = .ok (.bipush (-101), 2) := by decide +kernel
theorem dX5_heard_13 : decode cX5_heard 13 = .ok (.ireturn, 1) := by decide +kernel
theorem dX5_heard_14 : decode cX5_heard 14 = .ok (.iload_n 2, 1) := by decide +kernel
theorem dX5_heard_15 : decode cX5_heard 15 = .ok (.iconst (-1), 1) := by decide +kernel
theorem dX5_heard_16 : decode cX5_heard 16 = .ok (.if_icmp .eq 16, 3) := by decide +kernel
theorem dX5_heard_19 : decode cX5_heard 19 = .ok (.iload_n 2, 1) := by decide +kernel
theorem dX5_heard_20 : decode cX5_heard 20 = .ok (.ifCond .lt 9, 3) := by decide +kernel
theorem dX5_heard_23 : decode cX5_heard 23 = .ok (.iload_n 2, 1) := by decide +kernel
theorem dX5_heard_24 : decode cX5_heard 24 = .ok (.bipush 9, 2) := by decide +kernel
theorem dX5_heard_26 : decode cX5_heard 26 = .ok (.if_icmp .le 6, 3) := by decide +kernel
theorem dX5_heard_29 : decode cX5_heard 29 = .ok (.bipush (-102), 2) := by decide +kernel
theorem dX5_heard_31 : decode cX5_heard 31 = .ok (.ireturn, 1) := by decide +kernel
theorem dX5_heard_32 : decode cX5_heard 32 = .ok (.aload_n 0, 1) := by decide +kernel
theorem dX5_heard_33 : decode cX5_heard 33 = .ok (.getfield 26, 3) := by decide +kernel
theorem dX5_heard_36 : decode cX5_heard 36 = .ok (.iload_n 1, 1) := by decide +kernel
theorem dX5_heard_37 : decode cX5_heard 37 = .ok (.iload_n 2, 1) := by decide +kernel
theorem dX5_heard_38 : decode cX5_heard 38 = .ok (.invokevirtual 170, 3) := by decide +kernel
theorem dX5_heard_41 : decode cX5_heard 41 = .ok (.ifCond .eq 13, 3) := by decide +kernel
theorem dX5_heard_44 : decode cX5_heard 44 = .ok (.aload_n 0, 1) := by decide +kernel
theorem dX5_heard_45 : decode cX5_heard 45 = .ok (.getfield 26, 3) := by decide +kernel
theorem dX5_heard_48 : decode cX5_heard 48 = .ok (.getfield 173, 3) := by decide +kernel
theorem dX5_heard_51 : decode cX5_heard 51 = .ok (.goto 5, 3) := by decide +kernel
theorem dX5_heard_54 : decode cX5_heard 54 = .ok (.bipush (-104), 2) := by decide +kernel
theorem dX5_heard_56 : decode cX5_heard 56 = .ok (.ireturn, 1) := by decide +kernel
theorem dX5_forget_0 : decode cX5_forget 0 = .ok (.aload_n 0, 1) := by decide +kernel
theorem dX5_forget_1 : decode cX5_forget 1 = .ok (.getfield 26, 3) := by decide +kernel
theorem dX5_forget_4 : decode cX5_forget 4 = .ok (.getfield 173, 3) := by decide +kernel
theorem dX5_forget_7 : decode cX5_forget 7 = .ok (.istore_n 1, 1) := by decide +kernel
theorem dX5_forget_8 : decode cX5_forget 8 = .ok (.aload_n 0, 1) := by decide +kernel
theorem dX5_forget_9 : decode cX5_forget 9 = .ok (.getfield 26, 3) := by decide +kernel
theorem dX5_forget_12 : decode cX5_forget 12 = .ok (.iconst 0, 1) := by decide +kernel
theorem dX5_forget_13 : decode cX5_forget 13 = .ok (.putfield 173, 3) := by decide +kernel
theorem dX5_forget_16 : decode cX5_forget 16 = .ok (.iload_n 1, 1) := by decide +kernel
theorem dX5_forget_17 : decode cX5_forget 17 = .ok (.ireturn, 1) := by decide +kernel
theorem dX5_began_0 : decode cX5_began 0 = .ok (.aload_n 0, 1) := by decide +kernel
theorem dX5_began_1 : decode cX5_began 1 = .ok (.getfield 19, 3) := by decide +kernel
theorem dX5_began_4 : decode cX5_began 4 = .ok (.invokevirtual 144, 3) := by decide +kernel
theorem dX5_began_7 : decode cX5_began 7 = .ok (.ifCond .eq 13, 3) := by decide +kernel
theorem dX5_began_10 : decode cX5_began 10 = .ok (.aload_n 0, 1) := by decide +kernel
theorem dX5_began_11 : decode cX5_began 11 = .ok (.getfield 47, 3) := by decide +kernel
theorem dX5_began_14 : decode cX5_began 14 = .ok (.invokevirtual 176, 3) := by decide +kernel
theorem dX5_began_17 : decode cX5_began 17 = .ok (.goto 5, 3) := by decide +kernel
theorem dX5_began_20 : decode cX5_began 20 = .ok (.bipush (-103), 2) := by decide +kernel
theorem dX5_began_22 : decode cX5_began 22 = .ok (.ireturn, 1) := by decide +kernel
theorem dX5_ask_0 : decode cX5_ask 0 = .ok (.aload_n 0, 1) := by decide +kernel
theorem dX5_ask_1 : decode cX5_ask 1 = .ok (.getfield 19, 3) := by decide +kernel
theorem dX5_ask_4 : decode cX5_ask 4 = .ok (.invokevirtual 144, 3) := by decide +kernel
theorem dX5_ask_7 : decode cX5_ask 7 = .ok (.ifCond .eq 20, 3) := by decide +kernel
theorem dX5_ask_10 : decode cX5_ask 10 = .ok (.aload_n 0, 1) := by decide +kernel
theorem dX5_ask_11 : decode cX5_ask 11 = .ok (.getfield 47, 3) := by decide +kernel
theorem dX5_ask_14 : decode cX5_ask 14 = .ok (.aload_n 0, 1) := by decide +kernel
theorem dX5_ask_15 : decode cX5_ask 15 = .ok (.getfield 47, 3) := by decide +kernel
theorem dX5_ask_18 : decode cX5_ask 18 = .ok (.invokevirtual 176, 3) := by decide +kernel
theorem dX5_ask_21 : decode cX5_ask 21 = .ok (.invokevirtual 179, 3) := by decide +kernel
theorem dX5_ask_24 : decode cX5_ask 24 = .ok (.goto 5, 3) := by decide +kernel
theorem dX5_ask_27 : decode cX5_ask 27 = .ok (.bipush (-103), 2) := by decide +kernel
theorem dX5_ask_29 : decode cX5_ask 29 = .ok (.ireturn, 1) := by decide +kernel
theorem dX5_markets_0 : decode cX5_markets 0 = .ok (.iload_n 1, 1) := by decide +kernel
theorem dX5_markets_1 : decode cX5_markets 1 = .ok (.iconst 1, 1) := by decide +kernel
theorem dX5_markets_2 : decode cX5_markets 2 = .ok (.if_icmp .lt 22, 3) := by decide +kernel
theorem dX5_markets_5 : decode cX5_markets 5 = .ok (.iload_n 1, 1) := by decide +kernel
theorem dX5_markets_6 : decode cX5_markets 6 = .ok (.bipush 60, 2) := by decide +kernel
theorem dX5_markets_8 : decode cX5_markets 8 = .ok (.if_icmp .gt 16, 3) := by decide +kernel
theorem dX5_markets_11 : decode cX5_markets 11 = .ok (.iload_n 2, 1) := by decide +kernel
theorem dX5_markets_12 : decode cX5_markets 12 = .ok (.ifCond .lt 12, 3) := by decide +kernel
theorem dX5_markets_15 : decode cX5_markets 15 = .ok (.iload_n 3, 1) := by decide +kernel
theorem dX5_markets_16 : decode cX5_markets 16 = .ok (.ifCond .lt 8, 3) := by decide +kernel
theorem dX5_markets_19 : decode cX5_markets 19 = .ok (.iload_n 3, 1) := by decide +kernel
theorem dX5_markets_20 : decode cX5_markets 20 = .ok (.iconst 3, 1) := by decide +kernel
theorem dX5_markets_21 : decode cX5_markets 21 = .ok (.if_icmp .lt 6, 3) := by decide +kernel
theorem dX5_markets_24 : decode cX5_markets 24 = .ok (.bipush (-102), 2) := by decide +kernel
theorem dX5_markets_26 : decode cX5_markets 26 = .ok (.ireturn, 1) := by decide +kernel
theorem dX5_markets_27 : decode cX5_markets 27 = .ok (.aload_n 0, 1) := by decide +kernel
theorem dX5_markets_28 : decode cX5_markets 28 = .ok (.getfield 19, 3) := by decide +kernel
theorem dX5_markets_31 : decode cX5_markets 31 = .ok (.getfield 84, 3) := by decide +kernel
theorem dX5_markets_34 : decode cX5_markets 34 = .ok (.istore 4, 2) := by decide +kernel
theorem dX5_markets_36 : decode cX5_markets 36 = .ok (.iload 4, 2) := by decide +kernel
theorem dX5_markets_38 : decode cX5_markets 38 = .ok (.iconst 1, 1) := by decide +kernel
theorem dX5_markets_39 : decode cX5_markets 39 = .ok (.if_icmp .ge 6, 3) := by decide +kernel
theorem dX5_markets_42 : decode cX5_markets 42 = .ok (.bipush (-103), 2) := by decide +kernel
theorem dX5_markets_44 : decode cX5_markets 44 = .ok (.ireturn, 1) := by decide +kernel
theorem dX5_markets_45 : decode cX5_markets 45 = .ok (.iload_n 2, 1) := by decide +kernel
theorem dX5_markets_46 : decode cX5_markets 46 = .ok (.istore 5, 2) := by decide +kernel
theorem dX5_markets_48 : decode cX5_markets 48 = .ok (.iconst 0, 1) := by decide +kernel
theorem dX5_markets_49 : decode cX5_markets 49 = .ok (.istore 6, 2) := by decide +kernel
theorem dX5_markets_51 : decode cX5_markets 51 = .ok (.iconst 0, 1) := by decide +kernel
theorem dX5_markets_52 : decode cX5_markets 52 = .ok (.istore 7, 2) := by decide +kernel
theorem dX5_markets_54 : decode cX5_markets 54 = .ok (.iconst 0, 1) := by decide +kernel
theorem dX5_markets_55 : decode cX5_markets 55 = .ok (.istore 8, 2) := by decide +kernel
theorem dX5_markets_57 : decode cX5_markets 57 = .ok (.iload 8, 2) := by decide +kernel
theorem dX5_markets_59 : decode cX5_markets 59 = .ok (.iload_n 1, 1) := by decide +kernel
theorem dX5_markets_60 : decode cX5_markets 60 = .ok (.if_icmp .ge 51, 3) := by decide +kernel
theorem dX5_markets_63 : decode cX5_markets 63 = .ok (.iload 5, 2) := by decide +kernel
theorem dX5_markets_65 : decode cX5_markets 65 = .ok (.invokestatic 182, 3) := by decide +kernel
theorem dX5_markets_68 : decode cX5_markets 68 = .ok (.istore 5, 2) := by decide +kernel
theorem dX5_markets_70 : decode cX5_markets 70 = .ok (.aload_n 0, 1) := by decide +kernel
theorem dX5_markets_71 : decode cX5_markets 71 = .ok (.getfield 38, 3) := by decide +kernel
theorem dX5_markets_74 : decode cX5_markets 74 = .ok (.iconst 1, 1) := by decide +kernel
theorem dX5_markets_75 : decode cX5_markets 75 = .ok (.iload 5, 2) := by decide +kernel
theorem dX5_markets_77 : decode cX5_markets 77 = .ok (.ldc 185, 2) := by decide +kernel
theorem dX5_markets_79 : decode cX5_markets 79 = .ok (.idiv, 1) := by decide +kernel
theorem dX5_markets_80 : decode cX5_markets 80 = .ok (.iload 4, 2) := by decide +kernel
theorem dX5_markets_82 : decode cX5_markets 82 = .ok (.irem, 1) := by decide +kernel
theorem dX5_markets_83 : decode cX5_markets 83 = .ok (.ishl, 1) := by decide +kernel
theorem dX5_markets_84 : decode cX5_markets 84 = .ok (.invokevirtual 110, 3) := by decide +kernel
theorem dX5_markets_87 : decode cX5_markets 87 = .ok (.istore 9, 2) := by decide +kernel
theorem dX5_markets_89 : decode cX5_markets 89 = .ok (.iload 6, 2) := by decide +kernel
theorem dX5_markets_91 : decode cX5_markets 91 = .ok (.iload 9, 2) := by decide +kernel
theorem dX5_markets_93 : decode cX5_markets 93 = .ok (.iadd, 1) := by decide +kernel
theorem dX5_markets_94 : decode cX5_markets 94 = .ok (.istore 6, 2) := by decide +kernel
theorem dX5_markets_96 : decode cX5_markets 96 = .ok (.iload 7, 2) := by decide +kernel
theorem dX5_markets_98 : decode cX5_markets 98 = .ok (.iload 9, 2) := by decide +kernel
theorem dX5_markets_100 : decode cX5_markets 100 = .ok (.invokestatic 186, 3) := by decide +kernel
theorem dX5_markets_103 : decode cX5_markets 103 = .ok (.istore 7, 2) := by decide +kernel
theorem dX5_markets_105 : decode cX5_markets 105 = .ok (.iinc 8 1, 3) := by decide +kernel
theorem dX5_markets_108 : decode cX5_markets 108 = .ok (.goto (-51), 3) := by decide +kernel
theorem dX5_markets_111 : decode cX5_markets 111 = .ok (.iload_n 3, 1) := by decide +kernel
theorem dX5_markets_112 : decode cX5_markets 112 = .ok (.lookupswitch 34 #[(0, 28), (1, 31)], 28) := by decide +kernel
theorem dX5_markets_140 : decode cX5_markets 140 = .ok (.iload 6, 2) := by decide +kernel
theorem dX5_markets_142 : decode cX5_markets 142 = .ok (.ireturn, 1) := by decide +kernel
theorem dX5_markets_143 : decode cX5_markets 143 = .ok (.iload 7, 2) := by decide +kernel
theorem dX5_markets_145 : decode cX5_markets 145 = .ok (.ireturn, 1) := by decide +kernel
theorem dX5_markets_146 : decode cX5_markets 146 = .ok (.iload 5, 2) := by decide +kernel
theorem dX5_markets_148 : decode cX5_markets 148 = .ok (.ireturn, 1) := by decide +kernel
theorem dX5_seedBehind_0 : decode cX5_seedBehind 0 = .ok (.ldc 191, 2) := by decide +kernel
theorem dX5_seedBehind_2 : decode cX5_seedBehind 2 = .ok (.iload_n 0, 1) := by decide +kernel
theorem dX5_seedBehind_3 : decode cX5_seedBehind 3 = .ok (.imul, 1) := by decide +kernel
theorem dX5_seedBehind_4 : decode cX5_seedBehind 4 = .ok (.sipush 12345, 3) := by decide +kernel
theorem dX5_seedBehind_7 : decode cX5_seedBehind 7 = .ok (.iadd, 1) := by decide +kernel
theorem dX5_seedBehind_8 : decode cX5_seedBehind 8 = .ok (.ldc 192, 2) := by decide +kernel
theorem dX5_seedBehind_10 : decode cX5_seedBehind 10 = .ok (.iand, 1) := by decide +kernel
theorem dX5_seedBehind_11 : decode cX5_seedBehind 11 = .ok (.ireturn, 1) := by decide +kernel
theorem dX5_image_0 : decode cX5_image 0 = .ok (.aload_n 0, 1) := by decide +kernel
theorem dX5_image_1 : decode cX5_image 1 = .ok (.getfield 19, 3) := by decide +kernel
theorem dX5_image_4 : decode cX5_image 4 = .ok (.invokevirtual 144, 3) := by decide +kernel
theorem dX5_image_7 : decode cX5_image 7 = .ok (.ifCond .ne 6, 3) := by decide +kernel
theorem dX5_image_10 : decode cX5_image 10 = .ok (.bipush (-103), 2) := by decide +kernel
theorem dX5_image_12 : decode cX5_image 12 = .ok (.ireturn, 1) := by decide +kernel
theorem dX5_image_13 : decode cX5_image 13 = .ok (.aload_n 0, 1) := by decide +kernel
theorem dX5_image_14 : decode cX5_image 14 = .ok (.getfield 30, 3) := by decide +kernel
theorem dX5_image_17 : decode cX5_image 17 = .ok (.aload_n 0, 1) := by decide +kernel
theorem dX5_image_18 : decode cX5_image 18 = .ok (.getfield 26, 3) := by decide +kernel
theorem dX5_image_21 : decode cX5_image 21 = .ok (.invokevirtual 193, 3) := by decide +kernel
theorem dX5_image_24 : decode cX5_image 24 = .ok (.aload_n 0, 1) := by decide +kernel
theorem dX5_image_25 : decode cX5_image 25 = .ok (.iconst 1, 1) := by decide +kernel
theorem dX5_image_26 : decode cX5_image 26 = .ok (.putfield 51, 3) := by decide +kernel
theorem dX5_image_29 : decode cX5_image 29 = .ok (.aload_n 0, 1) := by decide +kernel
theorem dX5_image_30 : decode cX5_image 30 = .ok (.getfield 30, 3) := by decide +kernel
theorem dX5_image_33 : decode cX5_image 33 = .ok (.getfield 147, 3) := by decide +kernel
theorem dX5_image_36 : decode cX5_image 36 = .ok (.ireturn, 1) := by decide +kernel
theorem dX5_restore_0 : decode cX5_restore 0 = .ok (.aload_n 0, 1) := by decide +kernel
theorem dX5_restore_1 : decode cX5_restore 1 = .ok (.getfield 51, 3) := by decide +kernel
theorem dX5_restore_4 : decode cX5_restore 4 = .ok (.ifCond .ne 6, 3) := by decide +kernel
theorem dX5_restore_7 : decode cX5_restore 7 = .ok (.bipush (-103), 2) := by decide +kernel
theorem dX5_restore_9 : decode cX5_restore 9 = .ok (.ireturn, 1) := by decide +kernel
theorem dX5_restore_10 : decode cX5_restore 10 = .ok (.aload_n 0, 1) := by decide +kernel
theorem dX5_restore_11 : decode cX5_restore 11 = .ok (.getfield 26, 3) := by decide +kernel
theorem dX5_restore_14 : decode cX5_restore 14 = .ok (.aload_n 0, 1) := by decide +kernel
theorem dX5_restore_15 : decode cX5_restore 15 = .ok (.getfield 30, 3) := by decide +kernel
theorem dX5_restore_18 : decode cX5_restore 18 = .ok (.invokevirtual 193, 3) := by decide +kernel
theorem dX5_restore_21 : decode cX5_restore 21 = .ok (.aload_n 0, 1) := by decide +kernel
theorem dX5_restore_22 : decode cX5_restore 22 = .ok (.getfield 26, 3) := by decide +kernel
theorem dX5_restore_25 : decode cX5_restore 25 = .ok (.getfield 147, 3) := by decide +kernel
theorem dX5_restore_28 : decode cX5_restore 28 = .ok (.ireturn, 1) := by decide +kernel
theorem dX5_count_0 : decode cX5_count 0 = .ok (.iload_n 1, 1) := by decide +kernel
theorem dX5_count_1 : decode cX5_count 1 = .ok (.tableswitch 117 0 8 #[51, 59, 67, 75, 80, 88, 96, 104, 112], 51) := by decide +kernel
theorem dX5_count_52 : decode cX5_count 52 = .ok (.aload_n 0, 1) := by decide +kernel
theorem dX5_count_53 : decode cX5_count 53 = .ok (.getfield 19, 3) := by decide +kernel
theorem dX5_count_56 : decode cX5_count 56 = .ok (.getfield 84, 3) := by decide +kernel
theorem dX5_count_59 : decode cX5_count 59 = .ok (.ireturn, 1) := by decide +kernel
theorem dX5_count_60 : decode cX5_count 60 = .ok (.aload_n 0, 1) := by decide +kernel
theorem dX5_count_61 : decode cX5_count 61 = .ok (.getfield 19, 3) := by decide +kernel
theorem dX5_count_64 : decode cX5_count 64 = .ok (.getfield 197, 3) := by decide +kernel
theorem dX5_count_67 : decode cX5_count 67 = .ok (.ireturn, 1) := by decide +kernel
theorem dX5_count_68 : decode cX5_count 68 = .ok (.aload_n 0, 1) := by decide +kernel
theorem dX5_count_69 : decode cX5_count 69 = .ok (.getfield 26, 3) := by decide +kernel
theorem dX5_count_72 : decode cX5_count 72 = .ok (.getfield 147, 3) := by decide +kernel
theorem dX5_count_75 : decode cX5_count 75 = .ok (.ireturn, 1) := by decide +kernel
theorem dX5_count_76 : decode cX5_count 76 = .ok (.aload_n 0, 1) := by decide +kernel
theorem dX5_count_77 : decode cX5_count 77 = .ok (.invokevirtual 200, 3) := by decide +kernel
theorem dX5_count_80 : decode cX5_count 80 = .ok (.ireturn, 1) := by decide +kernel
theorem dX5_count_81 : decode cX5_count 81 = .ok (.aload_n 0, 1) := by decide +kernel
theorem dX5_count_82 : decode cX5_count 82 = .ok (.getfield 26, 3) := by decide +kernel
theorem dX5_count_85 : decode cX5_count 85 = .ok (.invokevirtual 203, 3) := by decide +kernel
theorem dX5_count_88 : decode cX5_count 88 = .ok (.ireturn, 1) := by decide +kernel
theorem dX5_count_89 : decode cX5_count 89 = .ok (.aload_n 0, 1) := by decide +kernel
theorem dX5_count_90 : decode cX5_count 90 = .ok (.getfield 26, 3) := by decide +kernel
theorem dX5_count_93 : decode cX5_count 93 = .ok (.getfield 120, 3) := by decide +kernel
theorem dX5_count_96 : decode cX5_count 96 = .ok (.ireturn, 1) := by decide +kernel
theorem dX5_count_97 : decode cX5_count 97 = .ok (.aload_n 0, 1) := by decide +kernel
theorem dX5_count_98 : decode cX5_count 98 = .ok (.getfield 26, 3) := by decide +kernel
theorem dX5_count_101 : decode cX5_count 101 = .ok (.getfield 173, 3) := by decide +kernel
theorem dX5_count_104 : decode cX5_count 104 = .ok (.ireturn, 1) := by decide +kernel
theorem dX5_count_105 : decode cX5_count 105 = .ok (.aload_n 0, 1) := by decide +kernel
theorem dX5_count_106 : decode cX5_count 106 = .ok (.getfield 10, 3) := by decide +kernel
theorem dX5_count_109 : decode cX5_count 109 = .ok (.getfield 63, 3) := by decide +kernel
theorem dX5_count_112 : decode cX5_count 112 = .ok (.ireturn, 1) := by decide +kernel
theorem dX5_count_113 : decode cX5_count 113 = .ok (.aload_n 0, 1) := by decide +kernel
theorem dX5_count_114 : decode cX5_count 114 = .ok (.getfield 55, 3) := by decide +kernel
theorem dX5_count_117 : decode cX5_count 117 = .ok (.ireturn, 1) := by decide +kernel
theorem dX5_count_118 : decode cX5_count 118 = .ok (.bipush (-102), 2) := by decide +kernel
theorem dX5_count_120 : decode cX5_count 120 = .ok (.ireturn, 1) := by decide +kernel
theorem dX5_lengthOfAll_0 : decode cX5_lengthOfAll 0 = .ok (.iconst 0, 1) := by decide +kernel
theorem dX5_lengthOfAll_1 : decode cX5_lengthOfAll 1 = .ok (.istore_n 1, 1) := by decide +kernel
theorem dX5_lengthOfAll_2 : decode cX5_lengthOfAll 2 = .ok (.iconst 0, 1) := by decide +kernel
theorem dX5_lengthOfAll_3 : decode cX5_lengthOfAll 3 = .ok (.istore_n 2, 1) := by decide +kernel
theorem dX5_lengthOfAll_4 : decode cX5_lengthOfAll 4 = .ok (.iload_n 2, 1) := by decide +kernel
theorem dX5_lengthOfAll_5 : decode cX5_lengthOfAll 5 = .ok (.iconst 3, 1) := by decide +kernel
theorem dX5_lengthOfAll_6 : decode cX5_lengthOfAll 6 = .ok (.if_icmp .ge 17, 3) := by decide +kernel
theorem dX5_lengthOfAll_9 : decode cX5_lengthOfAll 9 = .ok (.iload_n 1, 1) := by decide +kernel
theorem dX5_lengthOfAll_10 : decode cX5_lengthOfAll 10 = .ok (.aload_n 0, 1) := by decide +kernel
theorem dX5_lengthOfAll_11 : decode cX5_lengthOfAll 11 = .ok (.iload_n 2, 1) := by decide +kernel
theorem dX5_lengthOfAll_12 : decode cX5_lengthOfAll 12 = .ok (.invokevirtual 141, 3) := by decide +kernel
theorem dX5_lengthOfAll_15 : decode cX5_lengthOfAll 15 = .ok (.iadd, 1) := by decide +kernel
theorem dX5_lengthOfAll_16 : decode cX5_lengthOfAll 16 = .ok (.istore_n 1, 1) := by decide +kernel
theorem dX5_lengthOfAll_17 : decode cX5_lengthOfAll 17 = .ok (.iinc 2 1, 3) := by decide +kernel
theorem dX5_lengthOfAll_20 : decode cX5_lengthOfAll 20 = .ok (.goto (-16), 3) := by decide +kernel
theorem dX5_lengthOfAll_23 : decode cX5_lengthOfAll 23 = .ok (.iload_n 1, 1) := by decide +kernel
theorem dX5_lengthOfAll_24 : decode cX5_lengthOfAll 24 = .ok (.ireturn, 1) := by decide +kernel
theorem dX5_digest_0 : decode cX5_digest 0 = .ok (.ldc2_w 206, 3) := by decide +kernel
theorem dX5_digest_3 : decode cX5_digest 3 = .ok (.lstore_n 1, 1) := by decide +kernel
theorem dX5_digest_4 : decode cX5_digest 4 = .ok (.aload_n 0, 1) := by decide +kernel
theorem dX5_digest_5 : decode cX5_digest 5 = .ok (.getfield 19, 3) := by decide +kernel
theorem dX5_digest_8 : decode cX5_digest 8 = .ok (.invokevirtual 144, 3) := by decide +kernel
theorem dX5_digest_11 : decode cX5_digest 11 = .ok (.ifCond .eq 85, 3) := by decide +kernel
theorem dX5_digest_14 : decode cX5_digest 14 = .ok (.aload_n 0, 1) := by decide +kernel
theorem dX5_digest_15 : decode cX5_digest 15 = .ok (.lload_n 1, 1) := by decide +kernel
theorem dX5_digest_16 : decode cX5_digest 16 = .ok (.invokevirtual 208, 3) := by decide +kernel
theorem dX5_digest_19 : decode cX5_digest 19 = .ok (.lstore_n 1, 1) := by decide +kernel
theorem dX5_digest_20 : decode cX5_digest 20 = .ok (.aload_n 0, 1) := by decide +kernel
theorem dX5_digest_21 : decode cX5_digest 21 = .ok (.lload_n 1, 1) := by decide +kernel
theorem dX5_digest_22 : decode cX5_digest 22 = .ok (.invokevirtual 212, 3) := by decide +kernel
theorem dX5_digest_25 : decode cX5_digest 25 = .ok (.lstore_n 1, 1) := by decide +kernel
theorem dX5_digest_26 : decode cX5_digest 26 = .ok (.lload_n 1, 1) := by decide +kernel
theorem dX5_digest_27 : decode cX5_digest 27 = .ok (.aload_n 0, 1) := by decide +kernel
theorem dX5_digest_28 : decode cX5_digest 28 = .ok (.iconst 3, 1) := by decide +kernel
theorem dX5_digest_29 : decode cX5_digest 29 = .ok (.iconst 0, 1) := by decide +kernel
theorem dX5_digest_30 : decode cX5_digest 30 = .ok (.invokevirtual 215, 3) := by decide +kernel
theorem dX5_digest_33 : decode cX5_digest 33 = .ok (.i2l, 1) := by decide +kernel
theorem dX5_digest_34 : decode cX5_digest 34 = .ok (.invokestatic 218, 3) := by decide +kernel
theorem dX5_digest_37 : decode cX5_digest 37 = .ok (.lstore_n 1, 1) := by decide +kernel
theorem dX5_digest_38 : decode cX5_digest 38 = .ok (.lload_n 1, 1) := by decide +kernel
theorem dX5_digest_39 : decode cX5_digest 39 = .ok (.aload_n 0, 1) := by decide +kernel
theorem dX5_digest_40 : decode cX5_digest 40 = .ok (.iconst 3, 1) := by decide +kernel
theorem dX5_digest_41 : decode cX5_digest 41 = .ok (.iconst 1, 1) := by decide +kernel
theorem dX5_digest_42 : decode cX5_digest 42 = .ok (.invokevirtual 215, 3) := by decide +kernel
theorem dX5_digest_45 : decode cX5_digest 45 = .ok (.i2l, 1) := by decide +kernel
theorem dX5_digest_46 : decode cX5_digest 46 = .ok (.invokestatic 218, 3) := by decide +kernel
theorem dX5_digest_49 : decode cX5_digest 49 = .ok (.lstore_n 1, 1) := by decide +kernel
theorem dX5_digest_50 : decode cX5_digest 50 = .ok (.lload_n 1, 1) := by decide +kernel
theorem dX5_digest_51 : decode cX5_digest 51 = .ok (.aload_n 0, 1) := by decide +kernel
theorem dX5_digest_52 : decode cX5_digest 52 = .ok (.bipush 7, 2) := by decide +kernel
theorem dX5_digest_54 : decode cX5_digest 54 = .ok (.iconst 0, 1) := by decide +kernel
theorem dX5_digest_55 : decode cX5_digest 55 = .ok (.invokevirtual 215, 3) := by decide +kernel
theorem dX5_digest_58 : decode cX5_digest 58 = .ok (.i2l, 1) := by decide +kernel
theorem dX5_digest_59 : decode cX5_digest 59 = .ok (.invokestatic 218, 3) := by decide +kernel
theorem dX5_digest_62 : decode cX5_digest 62 = .ok (.lstore_n 1, 1) := by decide +kernel
theorem dX5_digest_63 : decode cX5_digest 63 = .ok (.lload_n 1, 1) := by decide +kernel
theorem dX5_digest_64 : decode cX5_digest 64 = .ok (.aload_n 0, 1) := by decide +kernel
theorem dX5_digest_65 : decode cX5_digest 65 = .ok (.bipush 7, 2) := by decide +kernel
theorem dX5_digest_67 : decode cX5_digest 67 = .ok (.iconst 1, 1) := by decide +kernel
theorem dX5_digest_68 : decode cX5_digest 68 = .ok (.invokevirtual 215, 3) := by decide +kernel
theorem dX5_digest_71 : decode cX5_digest 71 = .ok (.i2l, 1) := by decide +kernel
theorem dX5_digest_72 : decode cX5_digest 72 = .ok (.invokestatic 218, 3) := by decide +kernel
theorem dX5_digest_75 : decode cX5_digest 75 = .ok (.lstore_n 1, 1) := by decide +kernel
theorem dX5_digest_76 : decode cX5_digest 76 = .ok (.lload_n 1, 1) := by decide +kernel
theorem dX5_digest_77 : decode cX5_digest 77 = .ok (.aload_n 0, 1) := by decide +kernel
theorem dX5_digest_78 : decode cX5_digest 78 = .ok (.invokevirtual 222, 3) := by decide +kernel
theorem dX5_digest_81 : decode cX5_digest 81 = .ok (.i2l, 1) := by decide +kernel
theorem dX5_digest_82 : decode cX5_digest 82 = .ok (.invokestatic 218, 3) := by decide +kernel
theorem dX5_digest_85 : decode cX5_digest 85 = .ok (.lstore_n 1, 1) := by decide +kernel
theorem dX5_digest_86 : decode cX5_digest 86 = .ok (.lload_n 1, 1) := by decide +kernel
theorem dX5_digest_87 : decode cX5_digest 87 = .ok (.aload_n 0, 1) := by decide +kernel
theorem dX5_digest_88 : decode cX5_digest 88 = .ok (.invokevirtual 225, 3) := by decide +kernel
theorem dX5_digest_91 : decode cX5_digest 91 = .ok (.i2l, 1) := by decide +kernel
theorem dX5_digest_92 : decode cX5_digest 92 = .ok (.invokestatic 218, 3) := by decide +kernel
theorem dX5_digest_95 : decode cX5_digest 95 = .ok (.lstore_n 1, 1) := by decide +kernel
theorem dX5_digest_96 : decode cX5_digest 96 = .ok (.aload_n 0, 1) := by decide +kernel
theorem dX5_digest_97 : decode cX5_digest 97 = .ok (.lload_n 1, 1) := by decide +kernel
theorem dX5_digest_98 : decode cX5_digest 98 = .ok (.invokevirtual 228, 3) := by decide +kernel
theorem dX5_digest_101 : decode cX5_digest 101 = .ok (.lstore_n 1, 1) := by decide +kernel
theorem dX5_digest_102 : decode cX5_digest 102 = .ok (.iconst 0, 1) := by decide +kernel
theorem dX5_digest_103 : decode cX5_digest 103 = .ok (.istore_n 3, 1) := by decide +kernel
theorem dX5_digest_104 : decode cX5_digest 104 = .ok (.iload_n 3, 1) := by decide +kernel
theorem dX5_digest_105 : decode cX5_digest 105 = .ok (.bipush 9, 2) := by decide +kernel
theorem dX5_digest_107 : decode cX5_digest 107 = .ok (.if_icmp .ge 20, 3) := by decide +kernel
theorem dX5_digest_110 : decode cX5_digest 110 = .ok (.lload_n 1, 1) := by decide +kernel
theorem dX5_digest_111 : decode cX5_digest 111 = .ok (.aload_n 0, 1) := by decide +kernel
theorem dX5_digest_112 : decode cX5_digest 112 = .ok (.iload_n 3, 1) := by decide +kernel
theorem dX5_digest_113 : decode cX5_digest 113 = .ok (.invokevirtual 231, 3) := by decide +kernel
theorem dX5_digest_116 : decode cX5_digest 116 = .ok (.i2l, 1) := by decide +kernel
theorem dX5_digest_117 : decode cX5_digest 117 = .ok (.invokestatic 218, 3) := by decide +kernel
theorem dX5_digest_120 : decode cX5_digest 120 = .ok (.lstore_n 1, 1) := by decide +kernel
theorem dX5_digest_121 : decode cX5_digest 121 = .ok (.iinc 3 1, 3) := by decide +kernel
theorem dX5_digest_124 : decode cX5_digest 124 = .ok (.goto (-20), 3) := by decide +kernel
theorem dX5_digest_127 : decode cX5_digest 127 = .ok (.lload_n 1, 1) := by decide +kernel
theorem dX5_digest_128 : decode cX5_digest 128 = .ok (.lreturn, 1) := by decide +kernel
theorem dX5_withPeople_0 : decode cX5_withPeople 0 = .ok (.lload_n 1, 1) := by decide +kernel
theorem dX5_withPeople_1 : decode cX5_withPeople 1 = .ok (.lstore_n 3, 1) := by decide +kernel
theorem dX5_withPeople_2 : decode cX5_withPeople 2 = .ok (.iconst 0, 1) := by decide +kernel
theorem dX5_withPeople_3 : decode cX5_withPeople 3 = .ok (.istore 5, 2) := by decide +kernel
theorem dX5_withPeople_5 : decode cX5_withPeople 5 = .ok (.iload 5, 2) := by decide +kernel
theorem dX5_withPeople_7 : decode cX5_withPeople 7 = .ok (.aload_n 0, 1) := by decide +kernel
theorem dX5_withPeople_8 : decode cX5_withPeople 8 = .ok (.getfield 19, 3) := by decide +kernel
theorem dX5_withPeople_11 : decode cX5_withPeople 11 = .ok (.getfield 84, 3) := by decide +kernel
theorem dX5_withPeople_14 : decode cX5_withPeople 14 = .ok (.if_icmp .ge 39, 3) := by decide +kernel
theorem dX5_withPeople_17 : decode cX5_withPeople 17 = .ok (.iconst 0, 1) := by decide +kernel
theorem dX5_withPeople_18 : decode cX5_withPeople 18 = .ok (.istore 6, 2) := by decide +kernel
theorem dX5_withPeople_20 : decode cX5_withPeople 20 = .ok (.iload 6, 2) := by decide +kernel
theorem dX5_withPeople_22 : decode cX5_withPeople 22 = .ok (.bipush 6, 2) := by decide +kernel
theorem dX5_withPeople_24 : decode cX5_withPeople 24 = .ok (.if_icmp .ge 23, 3) := by decide +kernel
theorem dX5_withPeople_27 : decode cX5_withPeople 27 = .ok (.lload_n 3, 1) := by decide +kernel
theorem dX5_withPeople_28 : decode cX5_withPeople 28 = .ok (.aload_n 0, 1) := by decide +kernel
theorem dX5_withPeople_29 : decode cX5_withPeople 29 = .ok (.iload 5, 2) := by decide +kernel
theorem dX5_withPeople_31 : decode cX5_withPeople 31 = .ok (.iload 6, 2) := by decide +kernel
theorem dX5_withPeople_33 : decode cX5_withPeople 33 = .ok (.invokevirtual 234, 3) := by decide +kernel
theorem dX5_withPeople_36 : decode cX5_withPeople 36 = .ok (.i2l, 1) := by decide +kernel
theorem dX5_withPeople_37 : decode cX5_withPeople 37 = .ok (.invokestatic 218, 3) := by decide +kernel
theorem dX5_withPeople_40 : decode cX5_withPeople 40 = .ok (.lstore_n 3, 1) := by decide +kernel
theorem dX5_withPeople_41 : decode cX5_withPeople 41 = .ok (.iinc 6 1, 3) := by decide +kernel
theorem dX5_withPeople_44 : decode cX5_withPeople 44 = .ok (.goto (-24), 3) := by decide +kernel
theorem dX5_withPeople_47 : decode cX5_withPeople 47 = .ok (.iinc 5 1, 3) := by decide +kernel
theorem dX5_withPeople_50 : decode cX5_withPeople 50 = .ok (.goto (-45), 3) := by decide +kernel
theorem dX5_withPeople_53 : decode cX5_withPeople 53 = .ok (.lload_n 3, 1) := by decide +kernel
theorem dX5_withPeople_54 : decode cX5_withPeople 54 = .ok (.lreturn, 1) := by decide +kernel
theorem dX5_withTunnels_0 : decode cX5_withTunnels 0 = .ok (.lload_n 1, 1) := by decide +kernel
theorem dX5_withTunnels_1 : decode cX5_withTunnels 1 = .ok (.lstore_n 3, 1) := by decide +kernel
theorem dX5_withTunnels_2 : decode cX5_withTunnels 2 = .ok (.iconst 0, 1) := by decide +kernel
theorem dX5_withTunnels_3 : decode cX5_withTunnels 3 = .ok (.istore 5, 2) := by decide +kernel
theorem dX5_withTunnels_5 : decode cX5_withTunnels 5 = .ok (.iload 5, 2) := by decide +kernel
theorem dX5_withTunnels_7 : decode cX5_withTunnels 7 = .ok (.iconst 3, 1) := by decide +kernel
theorem dX5_withTunnels_8 : decode cX5_withTunnels 8 = .ok (.if_icmp .ge 38, 3) := by decide +kernel
theorem dX5_withTunnels_11 : decode cX5_withTunnels 11 = .ok (.iconst 0, 1) := by decide +kernel
theorem dX5_withTunnels_12 : decode cX5_withTunnels 12 = .ok (.istore 6, 2) := by decide +kernel
theorem dX5_withTunnels_14 : decode cX5_withTunnels 14 = .ok (.iload 6, 2) := by decide +kernel
theorem dX5_withTunnels_16 : decode cX5_withTunnels 16 = .ok (.iconst 5, 1) := by decide +kernel
theorem dX5_withTunnels_17 : decode cX5_withTunnels 17 = .ok (.if_icmp .ge 23, 3) := by decide +kernel
theorem dX5_withTunnels_20 : decode cX5_withTunnels 20 = .ok (.lload_n 3, 1) := by decide +kernel
theorem dX5_withTunnels_21 : decode cX5_withTunnels 21 = .ok (.aload_n 0, 1) := by decide +kernel
theorem dX5_withTunnels_22 : decode cX5_withTunnels 22 = .ok (.iload 5, 2) := by decide +kernel
theorem dX5_withTunnels_24 : decode cX5_withTunnels 24 = .ok (.iload 6, 2) := by decide +kernel
theorem dX5_withTunnels_26 : decode cX5_withTunnels 26 = .ok (.invokevirtual 237, 3) := by decide +kernel
theorem dX5_withTunnels_29 : decode cX5_withTunnels 29 = .ok (.i2l, 1) := by decide +kernel
theorem dX5_withTunnels_30 : decode cX5_withTunnels 30 = .ok (.invokestatic 218, 3) := by decide +kernel
theorem dX5_withTunnels_33 : decode cX5_withTunnels 33 = .ok (.lstore_n 3, 1) := by decide +kernel
theorem dX5_withTunnels_34 : decode cX5_withTunnels 34 = .ok (.iinc 6 1, 3) := by decide +kernel
theorem dX5_withTunnels_37 : decode cX5_withTunnels 37 = .ok (.goto (-23), 3) := by decide +kernel
theorem dX5_withTunnels_40 : decode cX5_withTunnels 40 = .ok (.iinc 5 1, 3) := by decide +kernel
theorem dX5_withTunnels_43 : decode cX5_withTunnels 43 = .ok (.goto (-38), 3) := by decide +kernel
theorem dX5_withTunnels_46 : decode cX5_withTunnels 46 = .ok (.lload_n 3, 1) := by decide +kernel
theorem dX5_withTunnels_47 : decode cX5_withTunnels 47 = .ok (.lreturn, 1) := by decide +kernel
theorem dX5_withLetters_0 : decode cX5_withLetters 0 = .ok (.lload_n 1, 1) := by decide +kernel
theorem dX5_withLetters_1 : decode cX5_withLetters 1 = .ok (.lstore_n 3, 1) := by decide +kernel
theorem dX5_withLetters_2 : decode cX5_withLetters 2 = .ok (.iconst 0, 1) := by decide +kernel
theorem dX5_withLetters_3 : decode cX5_withLetters 3 = .ok (.istore 5, 2) := by decide +kernel
theorem dX5_withLetters_5 : decode cX5_withLetters 5 = .ok (.iload 5, 2) := by decide +kernel
theorem dX5_withLetters_7 : decode cX5_withLetters 7 = .ok (.aload_n 0, 1) := by decide +kernel
theorem dX5_withLetters_8 : decode cX5_withLetters 8 = .ok (.getfield 10, 3) := by decide +kernel
theorem dX5_withLetters_11 : decode cX5_withLetters 11 = .ok (.getfield 63, 3) := by decide +kernel
theorem dX5_withLetters_14 : decode cX5_withLetters 14 = .ok (.if_icmp .ge 24, 3) := by decide +kernel
theorem dX5_withLetters_17 : decode cX5_withLetters 17 = .ok (.lload_n 3, 1) := by decide +kernel
theorem dX5_withLetters_18 : decode cX5_withLetters 18 = .ok (.aload_n 0, 1) := by decide +kernel
theorem dX5_withLetters_19 : decode cX5_withLetters 19 = .ok (.getfield 10, 3) := by decide +kernel
theorem dX5_withLetters_22 : decode cX5_withLetters 22 = .ok (.iload 5, 2) := by decide +kernel
theorem dX5_withLetters_24 : decode cX5_withLetters 24 = .ok (.invokevirtual 240, 3) := by decide +kernel
theorem dX5_withLetters_27 : decode cX5_withLetters 27 = .ok (.i2l, 1) := by decide +kernel
theorem dX5_withLetters_28 : decode cX5_withLetters 28 = .ok (.invokestatic 218, 3) := by decide +kernel
theorem dX5_withLetters_31 : decode cX5_withLetters 31 = .ok (.lstore_n 3, 1) := by decide +kernel
theorem dX5_withLetters_32 : decode cX5_withLetters 32 = .ok (.iinc 5 1, 3) := by decide +kernel
theorem dX5_withLetters_35 : decode cX5_withLetters 35 = .ok (.goto (-30), 3) := by decide +kernel
theorem dX5_withLetters_38 : decode cX5_withLetters 38 = .ok (.lload_n 3, 1) := by decide +kernel
theorem dX5_withLetters_39 : decode cX5_withLetters 39 = .ok (.lreturn, 1) := by decide +kernel
theorem dX5_mixed_0 : decode cX5_mixed 0 = .ok (.ldc2_w 243, 3) := by decide +kernel
theorem dX5_mixed_3 : decode cX5_mixed 3 = .ok (.lload_n 0, 1) := by decide +kernel
theorem dX5_mixed_4 : decode cX5_mixed 4 = .ok (.lmul, 1) := by decide +kernel
theorem dX5_mixed_5 : decode cX5_mixed 5 = .ok (.lload_n 2, 1) := by decide +kernel
theorem dX5_mixed_6 : decode cX5_mixed 6 = .ok (.ladd, 1) := by decide +kernel
theorem dX5_mixed_7 : decode cX5_mixed 7 = .ok (.lreturn, 1) := by decide +kernel
theorem dX5_isOfKind_0 : decode cX5_isOfKind 0 = .ok (.iload_n 1, 1) := by decide +kernel
theorem dX5_isOfKind_1 : decode cX5_isOfKind 1 = .ok (.ifCond .eq 18, 3) := by decide +kernel
theorem dX5_isOfKind_4 : decode cX5_isOfKind 4 = .ok (.iload_n 1, 1) := by decide +kernel
theorem dX5_isOfKind_5 : decode cX5_isOfKind 5 = .ok (.iload_n 0, 1) := by decide +kernel
theorem dX5_isOfKind_6 : decode cX5_isOfKind 6 = .ok (.if_icmp .eq 13, 3) := by decide +kernel
theorem dX5_isOfKind_9 : decode cX5_isOfKind 9 = .ok (.iload_n 1, 1) := by decide +kernel
theorem dX5_isOfKind_10 : decode cX5_isOfKind 10 = .ok (.iconst 2, 1) := by decide +kernel
theorem dX5_isOfKind_11 : decode cX5_isOfKind 11 = .ok (.if_icmp .ne 12, 3) := by decide +kernel
theorem dX5_isOfKind_14 : decode cX5_isOfKind 14 = .ok (.iload_n 0, 1) := by decide +kernel
theorem dX5_isOfKind_15 : decode cX5_isOfKind 15 = .ok (.iconst 4, 1) := by decide +kernel
theorem dX5_isOfKind_16 : decode cX5_isOfKind 16 = .ok (.if_icmp .ne 7, 3) := by decide +kernel
theorem dX5_isOfKind_19 : decode cX5_isOfKind 19 = .ok (.iconst 1, 1) := by decide +kernel
theorem dX5_isOfKind_20 : decode cX5_isOfKind 20 = .ok (.goto 4, 3) := by decide +kernel
theorem dX5_isOfKind_23 : decode cX5_isOfKind 23 = .ok (.iconst 0, 1) := by decide +kernel
theorem dX5_isOfKind_24 : decode cX5_isOfKind 24 = .ok (.ireturn, 1) := by decide +kernel
theorem dX5_isIn_0 : decode cX5_isIn 0 = .ok (.iload_n 1, 1) := by decide +kernel
theorem dX5_isIn_1 : decode cX5_isIn 1 = .ok (.iload_n 0, 1) := by decide +kernel
theorem dX5_isIn_2 : decode cX5_isIn 2 = .ok (.ishr, 1) := by decide +kernel
theorem dX5_isIn_3 : decode cX5_isIn 3 = .ok (.iconst 1, 1) := by decide +kernel
theorem dX5_isIn_4 : decode cX5_isIn 4 = .ok (.iand, 1) := by decide +kernel
theorem dX5_isIn_5 : decode cX5_isIn 5 = .ok (.ifCond .eq 7, 3) := by decide +kernel
theorem dX5_isIn_8 : decode cX5_isIn 8 = .ok (.iconst 1, 1) := by decide +kernel
theorem dX5_isIn_9 : decode cX5_isIn 9 = .ok (.goto 4, 3) := by decide +kernel
theorem dX5_isIn_12 : decode cX5_isIn 12 = .ok (.iconst 0, 1) := by decide +kernel
theorem dX5_isIn_13 : decode cX5_isIn 13 = .ok (.ireturn, 1) := by decide +kernel
end
section
theorem dX6_init_0 : decode cX6_init 0 = .ok (.aload_n 0, 1) := by decide +kernel
theorem dX6_init_1 : decode cX6_init 1 = .ok (.invokespecial 1, 3) := by decide +kernel
theorem dX6_init_4 : decode cX6_init 4 = .ok (.aload_n 0, 1) := by decide +kernel
theorem dX6_init_5 : decode cX6_init 5 = .ok (.bipush 22, 2) := by decide +kernel
theorem dX6_init_7 : decode cX6_init 7 = .ok (.newarray .int, 2) := by decide +kernel
theorem dX6_init_9 : decode cX6_init 9 = .ok (.putfield 7, 3) := by decide +kernel
theorem dX6_init_12 : decode cX6_init 12 = .ok (.aload_n 0, 1) := by decide +kernel
theorem dX6_init_13 : decode cX6_init 13 = .ok (.bipush 12, 2) := by decide +kernel
theorem dX6_init_15 : decode cX6_init 15 = .ok (.newarray .int, 2) := by decide +kernel
theorem dX6_init_17 : decode cX6_init 17 = .ok (.putfield 13, 3) := by decide +kernel
theorem dX6_init_20 : decode cX6_init 20 = .ok (.aload_n 0, 1) := by decide +kernel
theorem dX6_init_21 : decode cX6_init 21 = .ok (.bipush 9, 2) := by decide +kernel
theorem dX6_init_23 : decode cX6_init 23 = .ok (.newarray .int, 2) := by decide +kernel
theorem dX6_init_25 : decode cX6_init 25 = .ok (.putfield 16, 3) := by decide +kernel
theorem dX6_init_28 : decode cX6_init 28 = .ok (.aload_n 0, 1) := by decide +kernel
theorem dX6_init_29 : decode cX6_init 29 = .ok (.bipush 16, 2) := by decide +kernel
theorem dX6_init_31 : decode cX6_init 31 = .ok (.newarray .int, 2) := by decide +kernel
theorem dX6_init_33 : decode cX6_init 33 = .ok (.putfield 19, 3) := by decide +kernel
theorem dX6_init_36 : decode cX6_init 36 = .ok (.aload_n 0, 1) := by decide +kernel
theorem dX6_init_37 : decode cX6_init 37 = .ok (.bipush 8, 2) := by decide +kernel
theorem dX6_init_39 : decode cX6_init 39 = .ok (.newarray .int, 2) := by decide +kernel
theorem dX6_init_41 : decode cX6_init 41 = .ok (.putfield 22, 3) := by decide +kernel
theorem dX6_init_44 : decode cX6_init 44 = .ok (.aload_n 0, 1) := by decide +kernel
theorem dX6_init_45 : decode cX6_init 45 = .ok (.bipush 12, 2) := by decide +kernel
theorem dX6_init_47 : decode cX6_init 47 = .ok (.newarray .int, 2) := by decide +kernel
theorem dX6_init_49 : decode cX6_init 49 = .ok (.putfield 25, 3) := by decide +kernel
theorem dX6_init_52 : decode cX6_init 52 = .ok (.aload_n 0, 1) := by decide +kernel
theorem dX6_init_53 : decode cX6_init 53 = .ok (.bipush 9, 2) := by decide +kernel
theorem dX6_init_55 : decode cX6_init 55 = .ok (.newarray .int, 2) := by decide +kernel
theorem dX6_init_57 : decode cX6_init 57 = .ok (.putfield 28, 3) := by decide +kernel
theorem dX6_init_60 : decode cX6_init 60 = .ok (.aload_n 0, 1) := by decide +kernel
theorem dX6_init_61 : decode cX6_init 61 = .ok (.bipush 16, 2) := by decide +kernel
theorem dX6_init_63 : decode cX6_init 63 = .ok (.newarray .int, 2) := by decide +kernel
theorem dX6_init_65 : decode cX6_init 65 = .ok (.putfield 31, 3) := by decide +kernel
theorem dX6_init_68 : decode cX6_init 68 = .ok (.aload_n 0, 1) := by decide +kernel
theorem dX6_init_69 : decode cX6_init 69 = .ok (.iconst (-1), 1) := by decide +kernel
theorem dX6_init_70 : decode cX6_init 70 = .ok (.putfield 34, 3) := by decide +kernel
theorem dX6_init_73 : decode cX6_init 73 = .ok (.return_, 1) := by decide +kernel
theorem dX6_in_0 : decode cX6_in 0 = .ok (.lload_n 0, 1) := by decide +kernel
theorem dX6_in_1 : decode cX6_in 1 = .ok (.lload_n 2, 1) := by decide +kernel
theorem dX6_in_2 : decode cX6_in 2 = .ok (.lcmp, 1) := by decide +kernel
theorem dX6_in_3 : decode cX6_in 3 = .ok (.ifCond .lt 14, 3) := by decide +kernel
theorem dX6_in_6 : decode cX6_in 6 = .ok (.lload_n 0, 1) := by decide +kernel
theorem dX6_in_7 : decode cX6_in 7 = .ok (.lload 4, 2) := by decide +kernel
theorem dX6_in_9 : decode cX6_in 9 = .ok (.lcmp, 1) := by decide +kernel
theorem dX6_in_10 : decode cX6_in 10 = .ok (.ifCond .gt 7, 3) := by decide +kernel
theorem dX6_in_13 : decode cX6_in 13 = .ok (.iconst 1, 1) := by decide +kernel
theorem dX6_in_14 : decode cX6_in 14 = .ok (.goto 4, 3) := by decide +kernel
theorem dX6_in_17 : decode cX6_in 17 = .ok (.iconst 0, 1) := by decide +kernel
theorem dX6_in_18 : decode cX6_in 18 = .ok (.ireturn, 1) := by decide +kernel
theorem dX6_copy_0 : decode cX6_copy 0 = .ok (.iconst 0, 1) := by decide +kernel
theorem dX6_copy_1 : decode cX6_copy 1 = .ok (.istore_n 2, 1) := by decide +kernel
theorem dX6_copy_2 : decode cX6_copy 2 = .ok (.iload_n 2, 1) := by decide +kernel
theorem dX6_copy_3 : decode cX6_copy 3 = .ok (.aload_n 0, 1) := by decide +kernel
theorem dX6_copy_4 : decode cX6_copy 4 = .ok (.arraylength, 1) := by decide +kernel
theorem dX6_copy_5 : decode cX6_copy 5 = .ok (.if_icmp .ge 15, 3) := by decide +kernel
theorem dX6_copy_8 : decode cX6_copy 8 = .ok (.aload_n 1, 1) := by decide +kernel
theorem dX6_copy_9 : decode cX6_copy 9 = .ok (.iload_n 2, 1) := by decide +kernel
theorem dX6_copy_10 : decode cX6_copy 10 = .ok (.aload_n 0, 1) := by decide +kernel
theorem dX6_copy_11 : decode cX6_copy 11 = .ok (.iload_n 2, 1) := by decide +kernel
theorem dX6_copy_12 : decode cX6_copy 12 = .ok (.iaload, 1) := by decide +kernel
theorem dX6_copy_13 : decode cX6_copy 13 = .ok (.iastore, 1) := by decide +kernel
theorem dX6_copy_14 : decode cX6_copy 14 = .ok (.iinc 2 1, 3) := by decide +kernel
theorem dX6_copy_17 : decode cX6_copy 17 = .ok (.goto (-15), 3) := by decide +kernel
theorem dX6_copy_20 : decode cX6_copy 20 = .ok (.return_, 1) := by decide +kernel
theorem dX6_ones_0 : decode cX6_ones 0 = .ok (.iconst 0, 1) := by decide +kernel
theorem dX6_ones_1 : decode cX6_ones 1 = .ok (.istore_n 1, 1) := by decide +kernel
theorem dX6_ones_2 : decode cX6_ones 2 = .ok (.iconst 0, 1) := by decide +kernel
theorem dX6_ones_3 : decode cX6_ones 3 = .ok (.istore_n 2, 1) := by decide +kernel
theorem dX6_ones_4 : decode cX6_ones 4 = .ok (.iload_n 2, 1) := by decide +kernel
theorem dX6_ones_5 : decode cX6_ones 5 = .ok (.bipush 6, 2) := by decide +kernel
theorem dX6_ones_7 : decode cX6_ones 7 = .ok (.if_icmp .ge 17, 3) := by decide +kernel
theorem dX6_ones_10 : decode cX6_ones 10 = .ok (.iload_n 1, 1) := by decide +kernel
theorem dX6_ones_11 : decode cX6_ones 11 = .ok (.iload_n 0, 1) := by decide +kernel
theorem dX6_ones_12 : decode cX6_ones 12 = .ok (.iload_n 2, 1) := by decide +kernel
theorem dX6_ones_13 : decode cX6_ones 13 = .ok (.ishr, 1) := by decide +kernel
theorem dX6_ones_14 : decode cX6_ones 14 = .ok (.iconst 1, 1) := by decide +kernel
theorem dX6_ones_15 : decode cX6_ones 15 = .ok (.iand, 1) := by decide +kernel
theorem dX6_ones_16 : decode cX6_ones 16 = .ok (.iadd, 1) := by decide +kernel
theorem dX6_ones_17 : decode cX6_ones 17 = .ok (.istore_n 1, 1) := by decide +kernel
theorem dX6_ones_18 : decode cX6_ones 18 = .ok (.iinc 2 1, 3) := by decide +kernel
theorem dX6_ones_21 : decode cX6_ones 21 = .ok (.goto (-17), 3) := by decide +kernel
theorem dX6_ones_24 : decode cX6_ones 24 = .ok (.iload_n 1, 1) := by decide +kernel
theorem dX6_ones_25 : decode cX6_ones 25 = .ok (.ireturn, 1) := by decide +kernel
theorem dX6_letter_0 : decode cX6_letter 0 = .ok (.iload_n 1, 1) := by decide +kernel
theorem dX6_letter_1 : decode cX6_letter 1 = .ok (.i2l, 1) := by decide +kernel
theorem dX6_letter_2 : decode cX6_letter 2 = .ok (.lconst 1, 1) := by decide +kernel
theorem dX6_letter_3 : decode cX6_letter 3 = .ok (.ldc2_w 38, 3) := by decide +kernel
theorem dX6_letter_6 : decode cX6_letter 6 = .ok (.invokestatic 40, 3) := by decide +kernel
theorem dX6_letter_9 : decode cX6_letter 9 = .ok (.ifCond .ne 6, 3) := by decide +kernel
theorem dX6_letter_12 : decode cX6_letter 12 = .ok (.bipush (-102), 2) := by decide +kernel
theorem dX6_letter_14 : decode cX6_letter 14 = .ok (.ireturn, 1) := by decide +kernel
theorem dX6_letter_15 : decode cX6_letter 15 = .ok (.aload_n 0, 1) := by decide +kernel
theorem dX6_letter_16 : decode cX6_letter 16 = .ok (.getfield 44, 3) := by decide +kernel
theorem dX6_letter_19 : decode cX6_letter 19 = .ok (.bipush 22, 2) := by decide +kernel
theorem dX6_letter_21 : decode cX6_letter 21 = .ok (.if_icmp .ne 6, 3) := by decide +kernel
theorem dX6_letter_24 : decode cX6_letter 24 = .ok (.bipush (-104), 2) := by decide +kernel
theorem dX6_letter_26 : decode cX6_letter 26 = .ok (.ireturn, 1) := by decide +kernel
theorem dX6_letter_27 : decode cX6_letter 27 = .ok (.aload_n 0, 1) := by decide +kernel
theorem dX6_letter_28 : decode cX6_letter 28 = .ok (.getfield 7, 3) := by decide +kernel
theorem dX6_letter_31 : decode cX6_letter 31 = .ok (.aload_n 0, 1) := by decide +kernel
theorem dX6_letter_32 : decode cX6_letter 32 = .ok (.getfield 44, 3) := by decide +kernel
theorem dX6_letter_35 : decode cX6_letter 35 = .ok (.iload_n 1, 1) := by decide +kernel
theorem dX6_letter_36 : decode cX6_letter 36 = .ok (.iastore, 1) := by decide +kernel
theorem dX6_letter_37 : decode cX6_letter 37 = .ok (.aload_n 0, 1) := by decide +kernel
theorem dX6_letter_38 : decode cX6_letter 38 = .ok (.dup, 1) := by decide +kernel
theorem dX6_letter_39 : decode cX6_letter 39 = .ok (.getfield 44, 3) := by decide +kernel
theorem dX6_letter_42 : decode cX6_letter 42 = .ok (.iconst 1, 1) := by decide +kernel
theorem dX6_letter_43 : decode cX6_letter 43 = .ok (.iadd, 1) := by decide +kernel
theorem dX6_letter_44 : decode cX6_letter 44 = .ok (.putfield 44, 3) := by decide +kernel
theorem dX6_letter_47 : decode cX6_letter 47 = .ok (.aload_n 0, 1) := by decide +kernel
theorem dX6_letter_48 : decode cX6_letter 48 = .ok (.getfield 44, 3) := by decide +kernel
theorem dX6_letter_51 : decode cX6_letter 51 = .ok (.ireturn, 1) := by decide +kernel
theorem dX6_blank_0 : decode cX6_blank 0 = .ok (.aload_n 0, 1) := by decide +kernel
theorem dX6_blank_1 : decode cX6_blank 1 = .ok (.getfield 44, 3) := by decide +kernel
theorem dX6_blank_4 : decode cX6_blank 4 = .ok (.istore_n 1, 1) := by decide +kernel
theorem dX6_blank_5 : decode cX6_blank 5 = .ok (.aload_n 0, 1) := by decide +kernel
theorem dX6_blank_6 : decode cX6_blank 6 = .ok (.iconst 0, 1) := by decide +kernel
theorem dX6_blank_7 : decode cX6_blank 7 = .ok (.putfield 44, 3) := by decide +kernel
theorem dX6_blank_10 : decode cX6_blank 10 = .ok (.iload_n 1, 1) := by decide +kernel
theorem dX6_blank_11 : decode cX6_blank 11 = .ok (.ireturn, 1) := by decide +kernel
theorem dX6_kindBy_0 : decode cX6_kindBy 0 = .ok (.iload_n 0, 1) := by decide +kernel
theorem dX6_kindBy_1 : decode cX6_kindBy 1 = .ok (.bipush 109, 2) := by decide +kernel
theorem dX6_kindBy_3 : decode cX6_kindBy 3 = .ok (.if_icmp .ne 7, 3) := by decide +kernel
theorem dX6_kindBy_6 : decode cX6_kindBy 6 = .ok (.iconst 0, 1) := by decide +kernel
theorem dX6_kindBy_7 : decode cX6_kindBy 7 = .ok (.goto 44, 3) := by decide +kernel
theorem dX6_kindBy_10 : decode cX6_kindBy 10 = .ok (.iload_n 0, 1) := by decide +kernel
theorem dX6_kindBy_11 : decode cX6_kindBy 11 = .ok (.bipush 115, 2) := by decide +kernel
theorem dX6_kindBy_13 : decode cX6_kindBy 13 = .ok (.if_icmp .ne 7, 3) := by decide +kernel
theorem dX6_kindBy_16 : decode cX6_kindBy 16 = .ok (.iconst 1, 1) := by decide +kernel
theorem dX6_kindBy_17 : decode cX6_kindBy 17 = .ok (.goto 34, 3) := by decide +kernel
theorem dX6_kindBy_20 : decode cX6_kindBy 20 = .ok (.iload_n 0, 1) := by decide +kernel
theorem dX6_kindBy_21 : decode cX6_kindBy 21 = .ok (.bipush 103, 2) := by decide +kernel
theorem dX6_kindBy_23 : decode cX6_kindBy 23 = .ok (.if_icmp .ne 7, 3) := by decide +kernel
theorem dX6_kindBy_26 : decode cX6_kindBy 26 = .ok (.iconst 2, 1) := by decide +kernel
theorem dX6_kindBy_27 : decode cX6_kindBy 27 = .ok (.goto 24, 3) := by decide +kernel
theorem dX6_kindBy_30 : decode cX6_kindBy 30 = .ok (.iload_n 0, 1) := by decide +kernel
theorem dX6_kindBy_31 : decode cX6_kindBy 31 = .ok (.bipush 99, 2) := by decide +kernel
theorem dX6_kindBy_33 : decode cX6_kindBy 33 = .ok (.if_icmp .ne 7, 3) := by decide +kernel
theorem dX6_kindBy_36 : decode cX6_kindBy 36 = .ok (.iconst 3, 1) := by decide +kernel
theorem dX6_kindBy_37 : decode cX6_kindBy 37 = .ok (.goto 14, 3) := by decide +kernel
theorem dX6_kindBy_40 : decode cX6_kindBy 40 = .ok (.iload_n 0, 1) := by decide +kernel
theorem dX6_kindBy_41 : decode cX6_kindBy 41 = .ok (.bipush 112, 2) := by decide +kernel
theorem dX6_kindBy_43 : decode cX6_kindBy 43 = .ok (.if_icmp .ne 7, 3) := by decide +kernel
theorem dX6_kindBy_46 : decode cX6_kindBy 46 = .ok (.iconst 4, 1) := by decide +kernel
theorem dX6_kindBy_47 : decode cX6_kindBy 47 = .ok (.goto 4, 3) := by decide +kernel
theorem dX6_kindBy_50 : decode cX6_kindBy 50 = .ok (.iconst (-1), 1) := by decide +kernel
theorem dX6_kindBy_51 : decode cX6_kindBy 51 = .ok (.ireturn, 1) := by decide +kernel
theorem dX6_isGood_0 : decode cX6_isGood 0 = .ok (.aload_n 0, 1) := by decide +kernel
theorem dX6_isGood_1 : decode cX6_isGood 1 = .ok (.getfield 7, 3) := by decide +kernel
theorem dX6_isGood_4 : decode cX6_isGood 4 = .ok (.iload_n 1, 1) := by decide +kernel
theorem dX6_isGood_5 : decode cX6_isGood 5 = .ok (.iaload, 1) := by decide +kernel
theorem dX6_isGood_6 : decode cX6_isGood 6 = .ok (.istore_n 2, 1) := by decide +kernel
theorem dX6_isGood_7 : decode cX6_isGood 7 = .ok (.aload_n 0, 1) := by decide +kernel
theorem dX6_isGood_8 : decode cX6_isGood 8 = .ok (.getfield 47, 3) := by decide +kernel
theorem dX6_isGood_11 : decode cX6_isGood 11 = .ok (.iconst (-1), 1) := by decide +kernel
theorem dX6_isGood_12 : decode cX6_isGood 12 = .ok (.if_icmp .eq 33, 3) := by decide +kernel
theorem dX6_isGood_15 : decode cX6_isGood 15 = .ok (.iload_n 1, 1) := by decide +kernel
theorem dX6_isGood_16 : decode cX6_isGood 16 = .ok (.aload_n 0, 1) := by decide +kernel
theorem dX6_isGood_17 : decode cX6_isGood 17 = .ok (.getfield 47, 3) := by decide +kernel
theorem dX6_isGood_20 : decode cX6_isGood 20 = .ok (.iconst 1, 1) := by decide +kernel
theorem dX6_isGood_21 : decode cX6_isGood 21 = .ok (.iadd, 1) := by decide +kernel
theorem dX6_isGood_22 : decode cX6_isGood 22 = .ok (.if_icmp .ne 21, 3) := by decide +kernel
theorem dX6_isGood_25 : decode cX6_isGood 25 = .ok (.iload_n 2, 1) := by decide +kernel
theorem dX6_isGood_26 : decode cX6_isGood 26 = .ok (.i2l, 1) := by decide +kernel
theorem dX6_isGood_27 : decode cX6_isGood 27 = .ok (.ldc2_w 50, 3) := by decide +kernel
theorem dX6_isGood_30 : decode cX6_isGood 30 = .ok (.ldc2_w 52, 3) := by decide +kernel
theorem dX6_isGood_33 : decode cX6_isGood 33 = .ok (.invokestatic 40, 3) := by decide +kernel
theorem dX6_isGood_36 : decode cX6_isGood 36 = .ok (.ifCond .eq 7, 3) := by decide +kernel
theorem dX6_isGood_39 : decode cX6_isGood 39 = .ok (.iconst 1, 1) := by decide +kernel
theorem dX6_isGood_40 : decode cX6_isGood 40 = .ok (.goto 4, 3) := by decide +kernel
theorem dX6_isGood_43 : decode cX6_isGood 43 = .ok (.iconst 0, 1) := by decide +kernel
theorem dX6_isGood_44 : decode cX6_isGood 44 = .ok (.ireturn, 1) := by decide +kernel
theorem dX6_isGood_45 : decode cX6_isGood 45 = .ok (.iload_n 1, 1) := by decide +kernel
theorem dX6_isGood_46 : decode cX6_isGood 46 = .ok (.iconst 3, 1) := by decide +kernel
theorem dX6_isGood_47 : decode cX6_isGood 47 = .ok (.irem, 1) := by decide +kernel
theorem dX6_isGood_48 : decode cX6_isGood 48 = .ok (.iconst 2, 1) := by decide +kernel
theorem dX6_isGood_49 : decode cX6_isGood 49 = .ok (.if_icmp .ne 39, 3) := by decide +kernel
theorem dX6_isGood_52 : decode cX6_isGood 52 = .ok (.iload_n 2, 1) := by decide +kernel
theorem dX6_isGood_53 : decode cX6_isGood 53 = .ok (.bipush 59, 2) := by decide +kernel
theorem dX6_isGood_55 : decode cX6_isGood 55 = .ok (.if_icmp .ne 15, 3) := by decide +kernel
theorem dX6_isGood_58 : decode cX6_isGood 58 = .ok (.iload_n 1, 1) := by decide +kernel
theorem dX6_isGood_59 : decode cX6_isGood 59 = .ok (.iconst 4, 1) := by decide +kernel
theorem dX6_isGood_60 : decode cX6_isGood 60 = .ok (.if_icmp .le 10, 3) := by decide +kernel
theorem dX6_isGood_63 : decode cX6_isGood 63 = .ok (.aload_n 0, 1) := by decide +kernel
theorem dX6_isGood_64 : decode cX6_isGood 64 = .ok (.iload_n 1, 1) := by decide +kernel
theorem dX6_isGood_65 : decode cX6_isGood 65 = .ok (.putfield 47, 3) := by decide +kernel
theorem dX6_isGood_68 : decode cX6_isGood 68 = .ok (.iconst 1, 1) := by decide +kernel
theorem dX6_isGood_69 : decode cX6_isGood 69 = .ok (.ireturn, 1) := by decide +kernel
theorem dX6_isGood_70 : decode cX6_isGood 70 = .ok (.iload_n 2, 1) := by decide +kernel
theorem dX6_isGood_71 : decode cX6_isGood 71 = .ok (.bipush 44, 2) := by decide +kernel
theorem dX6_isGood_73 : decode cX6_isGood 73 = .ok (.if_icmp .ne 13, 3) := by decide +kernel
theorem dX6_isGood_76 : decode cX6_isGood 76 = .ok (.iload_n 1, 1) := by decide +kernel
theorem dX6_isGood_77 : decode cX6_isGood 77 = .ok (.bipush 17, 2) := by decide +kernel
theorem dX6_isGood_79 : decode cX6_isGood 79 = .ok (.if_icmp .ge 7, 3) := by decide +kernel
theorem dX6_isGood_82 : decode cX6_isGood 82 = .ok (.iconst 1, 1) := by decide +kernel
theorem dX6_isGood_83 : decode cX6_isGood 83 = .ok (.goto 4, 3) := by decide +kernel
theorem dX6_isGood_86 : decode cX6_isGood 86 = .ok (.iconst 0, 1) := by decide +kernel
theorem dX6_isGood_87 : decode cX6_isGood 87 = .ok (.ireturn, 1) := by decide +kernel
theorem dX6_isGood_88 : decode cX6_isGood 88 = .ok (.iload_n 1, 1) := by decide +kernel
theorem dX6_isGood_89 : decode cX6_isGood 89 = .ok (.iconst 3, 1) := by decide +kernel
theorem dX6_isGood_90 : decode cX6_isGood 90 = .ok (.irem, 1) := by decide +kernel
theorem dX6_isGood_91 : decode cX6_isGood 91 = .ok (.ifCond .ne 19, 3) := by decide +kernel
theorem dX6_isGood_94 : decode cX6_isGood 94 = .ok (.iload_n 2, 1) := by decide +kernel
theorem dX6_isGood_95 : decode cX6_isGood 95 = .ok (.invokestatic 54, 3) := by decide +kernel
theorem dX6_isGood_98 : decode cX6_isGood 98 = .ok (.iconst (-1), 1) := by decide +kernel
theorem dX6_isGood_99 : decode cX6_isGood 99 = .ok (.if_icmp .eq 7, 3) := by decide +kernel
theorem dX6_isGood_102 : decode cX6_isGood 102 = .ok (.iconst 1, 1) := by decide +kernel
theorem dX6_isGood_103 : decode cX6_isGood 103 = .ok (.goto 18, 3) := by decide +kernel
theorem dX6_isGood_106 : decode cX6_isGood 106 = .ok (.iconst 0, 1) := by decide +kernel
theorem dX6_isGood_107 : decode cX6_isGood 107 = .ok (.goto 14, 3) := by decide +kernel
theorem dX6_isGood_110 : decode cX6_isGood 110 = .ok (.iload_n 2, 1) := by decide +kernel
theorem dX6_isGood_111 : decode cX6_isGood 111 = .ok (.i2l, 1) := by decide +kernel
theorem dX6_isGood_112 : decode cX6_isGood 112 = .ok (.ldc2_w 58, 3) := by decide +kernel
theorem dX6_isGood_115 : decode cX6_isGood 115 = .ok (.ldc2_w 52, 3) := by decide +kernel
theorem dX6_isGood_118 : decode cX6_isGood 118 = .ok (.invokestatic 40, 3) := by decide +kernel
theorem dX6_isGood_121 : decode cX6_isGood 121 = .ok (.ireturn, 1) := by decide +kernel
theorem dX6_faultOf_0 : decode cX6_faultOf 0 = .ok (.aload_n 0, 1) := by decide +kernel
theorem dX6_faultOf_1 : decode cX6_faultOf 1 = .ok (.iconst (-1), 1) := by decide +kernel
theorem dX6_faultOf_2 : decode cX6_faultOf 2 = .ok (.putfield 47, 3) := by decide +kernel
theorem dX6_faultOf_5 : decode cX6_faultOf 5 = .ok (.iconst 0, 1) := by decide +kernel
theorem dX6_faultOf_6 : decode cX6_faultOf 6 = .ok (.istore_n 1, 1) := by decide +kernel
theorem dX6_faultOf_7 : decode cX6_faultOf 7 = .ok (.iload_n 1, 1) := by decide +kernel
theorem dX6_faultOf_8 : decode cX6_faultOf 8 = .ok (.aload_n 0, 1) := by decide +kernel
theorem dX6_faultOf_9 : decode cX6_faultOf 9 = .ok (.getfield 44, 3) := by decide +kernel
theorem dX6_faultOf_12 : decode cX6_faultOf 12 = .ok (.if_icmp .ge 17, 3) := by decide +kernel
theorem dX6_faultOf_15 : decode cX6_faultOf 15 = .ok (.aload_n 0, 1) := by decide +kernel
theorem dX6_faultOf_16 : decode cX6_faultOf 16 = .ok (.iload_n 1, 1) := by decide +kernel
theorem dX6_faultOf_17 : decode cX6_faultOf 17 = .ok (.invokevirtual 60, 3) := by decide +kernel
theorem dX6_faultOf_20 : decode cX6_faultOf 20 = .ok (.ifCond .eq 9, 3) := by decide +kernel
theorem dX6_faultOf_23 : decode cX6_faultOf 23 = .ok (.iinc 1 1, 3) := by decide +kernel
theorem dX6_faultOf_26 : decode cX6_faultOf 26 = .ok (.goto (-19), 3) := by decide +kernel
theorem dX6_faultOf_29 : decode cX6_faultOf 29 = .ok (.iload_n 1, 1) := by decide +kernel
theorem dX6_faultOf_30 : decode cX6_faultOf 30 = .ok (.ireturn, 1) := by decide +kernel
theorem dX6_fault_0 : decode cX6_fault 0 = .ok (.aload_n 0, 1) := by decide +kernel
theorem dX6_fault_1 : decode cX6_fault 1 = .ok (.invokevirtual 64, 3) := by decide +kernel
theorem dX6_fault_4 : decode cX6_fault 4 = .ok (.ireturn, 1) := by decide +kernel
theorem dX6_hill_0 : decode cX6_hill 0 = .ok (.aload_n 0, 1) := by decide +kernel
theorem dX6_hill_1 : decode cX6_hill 1 = .ok (.invokevirtual 64, 3) := by decide +kernel
theorem dX6_hill_4 : decode cX6_hill 4 = .ok (.aload_n 0, 1) := by decide +kernel
theorem dX6_hill_5 : decode cX6_hill 5 = .ok (.getfield 44, 3) := by decide +kernel
theorem dX6_hill_8 : decode cX6_hill 8 = .ok (.if_icmp .lt 24, 3) := by decide +kernel
theorem dX6_hill_11 : decode cX6_hill 11 = .ok (.aload_n 0, 1) := by decide +kernel
theorem dX6_hill_12 : decode cX6_hill 12 = .ok (.getfield 47, 3) := by decide +kernel
theorem dX6_hill_15 : decode cX6_hill 15 = .ok (.iconst (-1), 1) := by decide +kernel
theorem dX6_hill_16 : decode cX6_hill 16 = .ok (.if_icmp .eq 16, 3) := by decide +kernel
theorem dX6_hill_19 : decode cX6_hill 19 = .ok (.aload_n 0, 1) := by decide +kernel
theorem dX6_hill_20 : decode cX6_hill 20 = .ok (.getfield 44, 3) := by decide +kernel
theorem dX6_hill_23 : decode cX6_hill 23 = .ok (.aload_n 0, 1) := by decide +kernel
theorem dX6_hill_24 : decode cX6_hill 24 = .ok (.getfield 47, 3) := by decide +kernel
theorem dX6_hill_27 : decode cX6_hill 27 = .ok (.iconst 2, 1) := by decide +kernel
theorem dX6_hill_28 : decode cX6_hill 28 = .ok (.iadd, 1) := by decide +kernel
theorem dX6_hill_29 : decode cX6_hill 29 = .ok (.if_icmp .eq 6, 3) := by decide +kernel
theorem dX6_hill_32 : decode cX6_hill 32 = .ok (.bipush (-103), 2) := by decide +kernel
theorem dX6_hill_34 : decode cX6_hill 34 = .ok (.ireturn, 1) := by decide +kernel
theorem dX6_hill_35 : decode cX6_hill 35 = .ok (.aload_n 0, 1) := by decide +kernel
theorem dX6_hill_36 : decode cX6_hill 36 = .ok (.aload_n 0, 1) := by decide +kernel
theorem dX6_hill_37 : decode cX6_hill 37 = .ok (.getfield 47, 3) := by decide +kernel
theorem dX6_hill_40 : decode cX6_hill 40 = .ok (.iconst 1, 1) := by decide +kernel
theorem dX6_hill_41 : decode cX6_hill 41 = .ok (.iadd, 1) := by decide +kernel
theorem dX6_hill_42 : decode cX6_hill 42 = .ok (.iconst 3, 1) := by decide +kernel
theorem dX6_hill_43 : decode cX6_hill 43 = .ok (.idiv, 1) := by decide +kernel
theorem dX6_hill_44 : decode cX6_hill 44 = .ok (.putfield 68, 3) := by decide +kernel
theorem dX6_hill_47 : decode cX6_hill 47 = .ok (.iconst 0, 1) := by decide +kernel
theorem dX6_hill_48 : decode cX6_hill 48 = .ok (.istore_n 1, 1) := by decide +kernel
theorem dX6_hill_49 : decode cX6_hill 49 = .ok (.iload_n 1, 1) := by decide +kernel
theorem dX6_hill_50 : decode cX6_hill 50 = .ok (.aload_n 0, 1) := by decide +kernel
theorem dX6_hill_51 : decode cX6_hill 51 = .ok (.getfield 68, 3) := by decide +kernel
theorem dX6_hill_54 : decode cX6_hill 54 = .ok (.if_icmp .ge 70, 3) := by decide +kernel
theorem dX6_hill_57 : decode cX6_hill 57 = .ok (.aload_n 0, 1) := by decide +kernel
theorem dX6_hill_58 : decode cX6_hill 58 = .ok (.getfield 7, 3) := by decide +kernel
theorem dX6_hill_61 : decode cX6_hill 61 = .ok (.iconst 3, 1) := by decide +kernel
theorem dX6_hill_62 : decode cX6_hill 62 = .ok (.iload_n 1, 1) := by decide +kernel
theorem dX6_hill_63 : decode cX6_hill 63 = .ok (.imul, 1) := by decide +kernel
theorem dX6_hill_64 : decode cX6_hill 64 = .ok (.iconst 1, 1) := by decide +kernel
theorem dX6_hill_65 : decode cX6_hill 65 = .ok (.iadd, 1) := by decide +kernel
theorem dX6_hill_66 : decode cX6_hill 66 = .ok (.iaload, 1) := by decide +kernel
theorem dX6_hill_67 : decode cX6_hill 67 = .ok (.bipush 48, 2) := by decide +kernel
theorem dX6_hill_69 : decode cX6_hill 69 = .ok (.isub, 1) := by decide +kernel
theorem dX6_hill_70 : decode cX6_hill 70 = .ok (.istore_n 2, 1) := by decide +kernel
theorem dX6_hill_71 : decode cX6_hill 71 = .ok (.aload_n 0, 1) := by decide +kernel
theorem dX6_hill_72 : decode cX6_hill 72 = .ok (.getfield 13, 3) := by decide +kernel
theorem dX6_hill_75 : decode cX6_hill 75 = .ok (.iconst 2, 1) := by decide +kernel
theorem dX6_hill_76 : decode cX6_hill 76 = .ok (.iload_n 1, 1) := by decide +kernel
theorem dX6_hill_77 : decode cX6_hill 77 = .ok (.imul, 1) := by decide +kernel
theorem dX6_hill_78 : decode cX6_hill 78 = .ok (.aload_n 0, 1) := by decide +kernel
theorem dX6_hill_79 : decode cX6_hill 79 = .ok (.getfield 7, 3) := by decide +kernel
theorem dX6_hill_82 : decode cX6_hill 82 = .ok (.iconst 3, 1) := by decide +kernel
theorem dX6_hill_83 : decode cX6_hill 83 = .ok (.iload_n 1, 1) := by decide +kernel
theorem dX6_hill_84 : decode cX6_hill 84 = .ok (.imul, 1) := by decide +kernel
theorem dX6_hill_85 : decode cX6_hill 85 = .ok (.iaload, 1) := by decide +kernel
theorem dX6_hill_86 : decode cX6_hill 86 = .ok (.invokestatic 54, 3) := by decide +kernel
theorem dX6_hill_89 : decode cX6_hill 89 = .ok (.iastore, 1) := by decide +kernel
theorem dX6_hill_90 : decode cX6_hill 90 = .ok (.aload_n 0, 1) := by decide +kernel
theorem dX6_hill_91 : decode cX6_hill 91 = .ok (.getfield 13, 3) := by decide +kernel
theorem dX6_hill_94 : decode cX6_hill 94 = .ok (.iconst 2, 1) := by decide +kernel
theorem dX6_hill_95 : decode cX6_hill 95 = .ok (.iload_n 1, 1) := by decide +kernel
theorem dX6_hill_96 : decode cX6_hill 96 = .ok (.imul, 1) := by decide +kernel
theorem dX6_hill_97 : decode cX6_hill 97 = .ok (.iconst 1, 1) := by decide +kernel
theorem dX6_hill_98 : decode cX6_hill 98 = .ok (.iadd, 1) := by decide +kernel
theorem dX6_hill_99 : decode cX6_hill 99 = .ok (.iload_n 2, 1) := by decide +kernel
theorem dX6_hill_100 : decode cX6_hill 100 = .ok (.iload_n 1, 1) := by decide +kernel
theorem dX6_hill_101 : decode cX6_hill 101 = .ok (.if_icmp .eq 11, 3) := by decide +kernel
theorem dX6_hill_104 : decode cX6_hill 104 = .ok (.iload_n 2, 1) := by decide +kernel
theorem dX6_hill_105 : decode cX6_hill 105 = .ok (.aload_n 0, 1) := by decide +kernel
theorem dX6_hill_106 : decode cX6_hill 106 = .ok (.getfield 68, 3) := by decide +kernel
theorem dX6_hill_109 : decode cX6_hill 109 = .ok (.if_icmp .lt 7, 3) := by decide +kernel
theorem dX6_hill_112 : decode cX6_hill 112 = .ok (.iconst (-1), 1) := by decide +kernel
theorem dX6_hill_113 : decode cX6_hill 113 = .ok (.goto 4, 3) := by decide +kernel
theorem dX6_hill_116 : decode cX6_hill 116 = .ok (.iload_n 2, 1) := by decide +kernel
theorem dX6_hill_117 : decode cX6_hill 117 = .ok (.iastore, 1) := by decide +kernel
theorem dX6_hill_118 : decode cX6_hill 118 = .ok (.iinc 1 1, 3) := by decide +kernel
theorem dX6_hill_121 : decode cX6_hill 121 = .ok (.goto (-72), 3) := by decide +kernel
theorem dX6_hill_124 : decode cX6_hill 124 = .ok (.aload_n 0, 1) := by decide +kernel
theorem dX6_hill_125 : decode cX6_hill 125 = .ok (.aload_n 0, 1) := by decide +kernel
theorem dX6_hill_126 : decode cX6_hill 126 = .ok (.getfield 7, 3) := by decide +kernel
theorem dX6_hill_129 : decode cX6_hill 129 = .ok (.aload_n 0, 1) := by decide +kernel
theorem dX6_hill_130 : decode cX6_hill 130 = .ok (.getfield 47, 3) := by decide +kernel
theorem dX6_hill_133 : decode cX6_hill 133 = .ok (.iconst 1, 1) := by decide +kernel
theorem dX6_hill_134 : decode cX6_hill 134 = .ok (.iadd, 1) := by decide +kernel
theorem dX6_hill_135 : decode cX6_hill 135 = .ok (.iaload, 1) := by decide +kernel
theorem dX6_hill_136 : decode cX6_hill 136 = .ok (.bipush 48, 2) := by decide +kernel
theorem dX6_hill_138 : decode cX6_hill 138 = .ok (.isub, 1) := by decide +kernel
theorem dX6_hill_139 : decode cX6_hill 139 = .ok (.putfield 71, 3) := by decide +kernel
theorem dX6_hill_142 : decode cX6_hill 142 = .ok (.iconst 0, 1) := by decide +kernel
theorem dX6_hill_143 : decode cX6_hill 143 = .ok (.istore_n 1, 1) := by decide +kernel
theorem dX6_hill_144 : decode cX6_hill 144 = .ok (.iload_n 1, 1) := by decide +kernel
theorem dX6_hill_145 : decode cX6_hill 145 = .ok (.bipush 9, 2) := by decide +kernel
theorem dX6_hill_147 : decode cX6_hill 147 = .ok (.if_icmp .ge 16, 3) := by decide +kernel
theorem dX6_hill_150 : decode cX6_hill 150 = .ok (.aload_n 0, 1) := by decide +kernel
theorem dX6_hill_151 : decode cX6_hill 151 = .ok (.getfield 16, 3) := by decide +kernel
theorem dX6_hill_154 : decode cX6_hill 154 = .ok (.iload_n 1, 1) := by decide +kernel
theorem dX6_hill_155 : decode cX6_hill 155 = .ok (.iconst 0, 1) := by decide +kernel
theorem dX6_hill_156 : decode cX6_hill 156 = .ok (.iastore, 1) := by decide +kernel
theorem dX6_hill_157 : decode cX6_hill 157 = .ok (.iinc 1 1, 3) := by decide +kernel
theorem dX6_hill_160 : decode cX6_hill 160 = .ok (.goto (-16), 3) := by decide +kernel
theorem dX6_hill_163 : decode cX6_hill 163 = .ok (.aload_n 0, 1) := by decide +kernel
theorem dX6_hill_164 : decode cX6_hill 164 = .ok (.iconst 0, 1) := by decide +kernel
theorem dX6_hill_165 : decode cX6_hill 165 = .ok (.putfield 74, 3) := by decide +kernel
theorem dX6_hill_168 : decode cX6_hill 168 = .ok (.aload_n 0, 1) := by decide +kernel
theorem dX6_hill_169 : decode cX6_hill 169 = .ok (.iconst 0, 1) := by decide +kernel
theorem dX6_hill_170 : decode cX6_hill 170 = .ok (.putfield 77, 3) := by decide +kernel
theorem dX6_hill_173 : decode cX6_hill 173 = .ok (.aload_n 0, 1) := by decide +kernel
theorem dX6_hill_174 : decode cX6_hill 174 = .ok (.iconst 0, 1) := by decide +kernel
theorem dX6_hill_175 : decode cX6_hill 175 = .ok (.putfield 80, 3) := by decide +kernel
theorem dX6_hill_178 : decode cX6_hill 178 = .ok (.aload_n 0, 1) := by decide +kernel
theorem dX6_hill_179 : decode cX6_hill 179 = .ok (.dup, 1) := by decide +kernel
theorem dX6_hill_180 : decode cX6_hill 180 = .ok (.getfield 83, 3) := by decide +kernel
theorem dX6_hill_183 : decode cX6_hill 183 = .ok (.iconst 1, 1) := by decide +kernel
theorem dX6_hill_184 : decode cX6_hill 184 = .ok (.iadd, 1) := by decide +kernel
theorem dX6_hill_185 : decode cX6_hill 185 = .ok (.putfield 83, 3) := by decide +kernel
theorem dX6_hill_188 : decode cX6_hill 188 = .ok (.aload_n 0, 1) := by decide +kernel
theorem dX6_hill_189 : decode cX6_hill 189 = .ok (.iconst 0, 1) := by decide +kernel
theorem dX6_hill_190 : decode cX6_hill 190 = .ok (.putfield 44, 3) := by decide +kernel
theorem dX6_hill_193 : decode cX6_hill 193 = .ok (.aload_n 0, 1) := by decide +kernel
theorem dX6_hill_194 : decode cX6_hill 194 = .ok (.getfield 68, 3) := by decide +kernel
theorem dX6_hill_197 : decode cX6_hill 197 = .ok (.ireturn, 1) := by decide +kernel
theorem dX6_lacks_0 : decode cX6_lacks 0 = .ok (.aload_n 0, 1) := by decide +kernel
theorem dX6_lacks_1 : decode cX6_lacks 1 = .ok (.getfield 68, 3) := by decide +kernel
theorem dX6_lacks_4 : decode cX6_lacks 4 = .ok (.ifCond .ne 7, 3) := by decide +kernel
theorem dX6_lacks_7 : decode cX6_lacks 7 = .ok (.iconst 1, 1) := by decide +kernel
theorem dX6_lacks_8 : decode cX6_lacks 8 = .ok (.goto 4, 3) := by decide +kernel
theorem dX6_lacks_11 : decode cX6_lacks 11 = .ok (.iconst 0, 1) := by decide +kernel
theorem dX6_lacks_12 : decode cX6_lacks 12 = .ok (.ireturn, 1) := by decide +kernel
theorem dX6_isPerson_0 : decode cX6_isPerson 0 = .ok (.iload_n 1, 1) := by decide +kernel
theorem dX6_isPerson_1 : decode cX6_isPerson 1 = .ok (.i2l, 1) := by decide +kernel
theorem dX6_isPerson_2 : decode cX6_isPerson 2 = .ok (.lconst 0, 1) := by decide +kernel
theorem dX6_isPerson_3 : decode cX6_isPerson 3 = .ok (.aload_n 0, 1) := by decide +kernel
theorem dX6_isPerson_4 : decode cX6_isPerson 4 = .ok (.getfield 68, 3) := by decide +kernel
theorem dX6_isPerson_7 : decode cX6_isPerson 7 = .ok (.iconst 1, 1) := by decide +kernel
theorem dX6_isPerson_8 : decode cX6_isPerson 8 = .ok (.isub, 1) := by decide +kernel
theorem dX6_isPerson_9 : decode cX6_isPerson 9 = .ok (.i2l, 1) := by decide +kernel
theorem dX6_isPerson_10 : decode cX6_isPerson 10 = .ok (.invokestatic 40, 3) := by decide +kernel
theorem dX6_isPerson_13 : decode cX6_isPerson 13 = .ok (.ireturn, 1) := by decide +kernel
theorem dX6_isTunnel_0 : decode cX6_isTunnel 0 = .ok (.aload_n 0, 1) := by decide +kernel
theorem dX6_isTunnel_1 : decode cX6_isTunnel 1 = .ok (.invokevirtual 86, 3) := by decide +kernel
theorem dX6_isTunnel_4 : decode cX6_isTunnel 4 = .ok (.ifCond .ne 19, 3) := by decide +kernel
theorem dX6_isTunnel_7 : decode cX6_isTunnel 7 = .ok (.iload_n 1, 1) := by decide +kernel
theorem dX6_isTunnel_8 : decode cX6_isTunnel 8 = .ok (.i2l, 1) := by decide +kernel
theorem dX6_isTunnel_9 : decode cX6_isTunnel 9 = .ok (.lconst 0, 1) := by decide +kernel
theorem dX6_isTunnel_10 : decode cX6_isTunnel 10 = .ok (.ldc2_w 90, 3) := by decide +kernel
theorem dX6_isTunnel_13 : decode cX6_isTunnel 13 = .ok (.invokestatic 40, 3) := by decide +kernel
theorem dX6_isTunnel_16 : decode cX6_isTunnel 16 = .ok (.ifCond .eq 7, 3) := by decide +kernel
theorem dX6_isTunnel_19 : decode cX6_isTunnel 19 = .ok (.iconst 1, 1) := by decide +kernel
theorem dX6_isTunnel_20 : decode cX6_isTunnel 20 = .ok (.goto 4, 3) := by decide +kernel
theorem dX6_isTunnel_23 : decode cX6_isTunnel 23 = .ok (.iconst 0, 1) := by decide +kernel
theorem dX6_isTunnel_24 : decode cX6_isTunnel 24 = .ok (.ireturn, 1) := by decide +kernel
theorem dX6_tellsOf_0 : decode cX6_tellsOf 0 = .ok (.aload_n 0, 1) := by decide +kernel
theorem dX6_tellsOf_1 : decode cX6_tellsOf 1 = .ok (.getfield 13, 3) := by decide +kernel
theorem dX6_tellsOf_4 : decode cX6_tellsOf 4 = .ok (.iconst 2, 1) := by decide +kernel
theorem dX6_tellsOf_5 : decode cX6_tellsOf 5 = .ok (.iload_n 1, 1) := by decide +kernel
theorem dX6_tellsOf_6 : decode cX6_tellsOf 6 = .ok (.imul, 1) := by decide +kernel
theorem dX6_tellsOf_7 : decode cX6_tellsOf 7 = .ok (.iaload, 1) := by decide +kernel
theorem dX6_tellsOf_8 : decode cX6_tellsOf 8 = .ok (.istore_n 2, 1) := by decide +kernel
theorem dX6_tellsOf_9 : decode cX6_tellsOf 9 = .ok (.aload_n 0, 1) := by decide +kernel
theorem dX6_tellsOf_10 : decode cX6_tellsOf 10 = .ok (.getfield 13, 3) := by decide +kernel
theorem dX6_tellsOf_13 : decode cX6_tellsOf 13 = .ok (.iconst 2, 1) := by decide +kernel
theorem dX6_tellsOf_14 : decode cX6_tellsOf 14 = .ok (.iload_n 1, 1) := by decide +kernel
theorem dX6_tellsOf_15 : decode cX6_tellsOf 15 = .ok (.imul, 1) := by decide +kernel
theorem dX6_tellsOf_16 : decode cX6_tellsOf 16 = .ok (.iconst 1, 1) := by decide +kernel
theorem dX6_tellsOf_17 : decode cX6_tellsOf 17 = .ok (.iadd, 1) := by decide +kernel
theorem dX6_tellsOf_18 : decode cX6_tellsOf 18 = .ok (.iaload, 1) := by decide +kernel
theorem dX6_tellsOf_19 : decode cX6_tellsOf 19 = .ok (.istore_n 3, 1) := by decide +kernel
theorem dX6_tellsOf_20 : decode cX6_tellsOf 20 = .ok (.iload_n 2, 1) := by decide +kernel
theorem dX6_tellsOf_21 : decode cX6_tellsOf 21 = .ok (.iconst 1, 1) := by decide +kernel
theorem dX6_tellsOf_22 : decode cX6_tellsOf 22 = .ok (.if_icmp .eq 8, 3) := by decide +kernel
theorem dX6_tellsOf_25 : decode cX6_tellsOf 25 = .ok (.iload_n 3, 1) := by decide +kernel
theorem dX6_tellsOf_26 : decode cX6_tellsOf 26 = .ok (.iconst (-1), 1) := by decide +kernel
theorem dX6_tellsOf_27 : decode cX6_tellsOf 27 = .ok (.if_icmp .ne 5, 3) := by decide +kernel
theorem dX6_tellsOf_30 : decode cX6_tellsOf 30 = .ok (.iconst 0, 1) := by decide +kernel
theorem dX6_tellsOf_31 : decode cX6_tellsOf 31 = .ok (.ireturn, 1) := by decide +kernel
theorem dX6_tellsOf_32 : decode cX6_tellsOf 32 = .ok (.iconst 1, 1) := by decide +kernel
theorem dX6_tellsOf_33 : decode cX6_tellsOf 33 = .ok (.iload_n 3, 1) := by decide +kernel
theorem dX6_tellsOf_34 : decode cX6_tellsOf 34 = .ok (.ishl, 1) := by decide +kernel
theorem dX6_tellsOf_35 : decode cX6_tellsOf 35 = .ok (.istore 4, 2) := by decide +kernel
theorem dX6_tellsOf_37 : decode cX6_tellsOf 37 = .ok (.iload_n 2, 1) := by decide +kernel
theorem dX6_tellsOf_38 : decode cX6_tellsOf 38 = .ok (.iconst 2, 1) := by decide +kernel
theorem dX6_tellsOf_39 : decode cX6_tellsOf 39 = .ok (.if_icmp .eq 8, 3) := by decide +kernel
theorem dX6_tellsOf_42 : decode cX6_tellsOf 42 = .ok (.iload_n 2, 1) := by decide +kernel
theorem dX6_tellsOf_43 : decode cX6_tellsOf 43 = .ok (.iconst 4, 1) := by decide +kernel
theorem dX6_tellsOf_44 : decode cX6_tellsOf 44 = .ok (.if_icmp .ne 7, 3) := by decide +kernel
theorem dX6_tellsOf_47 : decode cX6_tellsOf 47 = .ok (.iconst 1, 1) := by decide +kernel
theorem dX6_tellsOf_48 : decode cX6_tellsOf 48 = .ok (.goto 4, 3) := by decide +kernel
theorem dX6_tellsOf_51 : decode cX6_tellsOf 51 = .ok (.iconst 0, 1) := by decide +kernel
theorem dX6_tellsOf_52 : decode cX6_tellsOf 52 = .ok (.istore 5, 2) := by decide +kernel
theorem dX6_tellsOf_54 : decode cX6_tellsOf 54 = .ok (.iload 5, 2) := by decide +kernel
theorem dX6_tellsOf_56 : decode cX6_tellsOf 56 = .ok (.ifCond .eq 31, 3) := by decide +kernel
theorem dX6_tellsOf_59 : decode cX6_tellsOf 59 = .ok (.iload_n 3, 1) := by decide +kernel
theorem dX6_tellsOf_60 : decode cX6_tellsOf 60 = .ok (.iconst 1, 1) := by decide +kernel
theorem dX6_tellsOf_61 : decode cX6_tellsOf 61 = .ok (.iadd, 1) := by decide +kernel
theorem dX6_tellsOf_62 : decode cX6_tellsOf 62 = .ok (.aload_n 0, 1) := by decide +kernel
theorem dX6_tellsOf_63 : decode cX6_tellsOf 63 = .ok (.getfield 68, 3) := by decide +kernel
theorem dX6_tellsOf_66 : decode cX6_tellsOf 66 = .ok (.if_icmp .ge 21, 3) := by decide +kernel
theorem dX6_tellsOf_69 : decode cX6_tellsOf 69 = .ok (.iload_n 3, 1) := by decide +kernel
theorem dX6_tellsOf_70 : decode cX6_tellsOf 70 = .ok (.iconst 1, 1) := by decide +kernel
theorem dX6_tellsOf_71 : decode cX6_tellsOf 71 = .ok (.iadd, 1) := by decide +kernel
theorem dX6_tellsOf_72 : decode cX6_tellsOf 72 = .ok (.iload_n 1, 1) := by decide +kernel
theorem dX6_tellsOf_73 : decode cX6_tellsOf 73 = .ok (.if_icmp .eq 14, 3) := by decide +kernel
theorem dX6_tellsOf_76 : decode cX6_tellsOf 76 = .ok (.iload 4, 2) := by decide +kernel
theorem dX6_tellsOf_78 : decode cX6_tellsOf 78 = .ok (.iconst 1, 1) := by decide +kernel
theorem dX6_tellsOf_79 : decode cX6_tellsOf 79 = .ok (.iload_n 3, 1) := by decide +kernel
theorem dX6_tellsOf_80 : decode cX6_tellsOf 80 = .ok (.iconst 1, 1) := by decide +kernel
theorem dX6_tellsOf_81 : decode cX6_tellsOf 81 = .ok (.iadd, 1) := by decide +kernel
theorem dX6_tellsOf_82 : decode cX6_tellsOf 82 = .ok (.ishl, 1) := by decide +kernel
theorem dX6_tellsOf_83 : decode cX6_tellsOf 83 = .ok (.ior, 1) := by decide +kernel
theorem dX6_tellsOf_84 : decode cX6_tellsOf 84 = .ok (.goto 5, 3) := by decide +kernel
theorem dX6_tellsOf_87 : decode cX6_tellsOf 87 = .ok (.iload 4, 2) := by decide +kernel
theorem dX6_tellsOf_89 : decode cX6_tellsOf 89 = .ok (.ireturn, 1) := by decide +kernel
theorem dX6_toldBy_0 : decode cX6_toldBy 0 = .ok (.iconst 0, 1) := by decide +kernel
theorem dX6_toldBy_1 : decode cX6_toldBy 1 = .ok (.istore_n 2, 1) := by decide +kernel
theorem dX6_toldBy_2 : decode cX6_toldBy 2 = .ok (.iconst 0, 1) := by decide +kernel
theorem dX6_toldBy_3 : decode cX6_toldBy 3 = .ok (.istore_n 3, 1) := by decide +kernel
theorem dX6_toldBy_4 : decode cX6_toldBy 4 = .ok (.iload_n 3, 1) := by decide +kernel
theorem dX6_toldBy_5 : decode cX6_toldBy 5 = .ok (.aload_n 0, 1) := by decide +kernel
theorem dX6_toldBy_6 : decode cX6_toldBy 6 = .ok (.getfield 68, 3) := by decide +kernel
theorem dX6_toldBy_9 : decode cX6_toldBy 9 = .ok (.if_icmp .ge 30, 3) := by decide +kernel
theorem dX6_toldBy_12 : decode cX6_toldBy 12 = .ok (.iload_n 2, 1) := by decide +kernel
theorem dX6_toldBy_13 : decode cX6_toldBy 13 = .ok (.iload_n 1, 1) := by decide +kernel
theorem dX6_toldBy_14 : decode cX6_toldBy 14 = .ok (.iload_n 3, 1) := by decide +kernel
theorem dX6_toldBy_15 : decode cX6_toldBy 15 = .ok (.ishr, 1) := by decide +kernel
theorem dX6_toldBy_16 : decode cX6_toldBy 16 = .ok (.iconst 1, 1) := by decide +kernel
theorem dX6_toldBy_17 : decode cX6_toldBy 17 = .ok (.iand, 1) := by decide +kernel
theorem dX6_toldBy_18 : decode cX6_toldBy 18 = .ok (.iconst 1, 1) := by decide +kernel
theorem dX6_toldBy_19 : decode cX6_toldBy 19 = .ok (.if_icmp .ne 11, 3) := by decide +kernel
theorem dX6_toldBy_22 : decode cX6_toldBy 22 = .ok (.aload_n 0, 1) := by decide +kernel
theorem dX6_toldBy_23 : decode cX6_toldBy 23 = .ok (.iload_n 3, 1) := by decide +kernel
theorem dX6_toldBy_24 : decode cX6_toldBy 24 = .ok (.invokevirtual 92, 3) := by decide +kernel
theorem dX6_toldBy_27 : decode cX6_toldBy 27 = .ok (.goto 4, 3) := by decide +kernel
theorem dX6_toldBy_30 : decode cX6_toldBy 30 = .ok (.iconst 0, 1) := by decide +kernel
theorem dX6_toldBy_31 : decode cX6_toldBy 31 = .ok (.ior, 1) := by decide +kernel
theorem dX6_toldBy_32 : decode cX6_toldBy 32 = .ok (.istore_n 2, 1) := by decide +kernel
theorem dX6_toldBy_33 : decode cX6_toldBy 33 = .ok (.iinc 3 1, 3) := by decide +kernel
theorem dX6_toldBy_36 : decode cX6_toldBy 36 = .ok (.goto (-32), 3) := by decide +kernel
theorem dX6_toldBy_39 : decode cX6_toldBy 39 = .ok (.iload_n 2, 1) := by decide +kernel
theorem dX6_toldBy_40 : decode cX6_toldBy 40 = .ok (.ireturn, 1) := by decide +kernel
theorem dX6_endBy_0 : decode cX6_endBy 0 = .ok (.iload_n 1, 1) := by decide +kernel
theorem dX6_endBy_1 : decode cX6_endBy 1 = .ok (.istore_n 3, 1) := by decide +kernel
theorem dX6_endBy_2 : decode cX6_endBy 2 = .ok (.iload_n 2, 1) := by decide +kernel
theorem dX6_endBy_3 : decode cX6_endBy 3 = .ok (.istore 4, 2) := by decide +kernel
theorem dX6_endBy_5 : decode cX6_endBy 5 = .ok (.iload 4, 2) := by decide +kernel
theorem dX6_endBy_7 : decode cX6_endBy 7 = .ok (.ifCond .eq 23, 3) := by decide +kernel
theorem dX6_endBy_10 : decode cX6_endBy 10 = .ok (.aload_n 0, 1) := by decide +kernel
theorem dX6_endBy_11 : decode cX6_endBy 11 = .ok (.iload 4, 2) := by decide +kernel
theorem dX6_endBy_13 : decode cX6_endBy 13 = .ok (.invokevirtual 95, 3) := by decide +kernel
theorem dX6_endBy_16 : decode cX6_endBy 16 = .ok (.iload_n 3, 1) := by decide +kernel
theorem dX6_endBy_17 : decode cX6_endBy 17 = .ok (.iconst (-1), 1) := by decide +kernel
theorem dX6_endBy_18 : decode cX6_endBy 18 = .ok (.ixor, 1) := by decide +kernel
theorem dX6_endBy_19 : decode cX6_endBy 19 = .ok (.iand, 1) := by decide +kernel
theorem dX6_endBy_20 : decode cX6_endBy 20 = .ok (.istore 4, 2) := by decide +kernel
theorem dX6_endBy_22 : decode cX6_endBy 22 = .ok (.iload_n 3, 1) := by decide +kernel
theorem dX6_endBy_23 : decode cX6_endBy 23 = .ok (.iload 4, 2) := by decide +kernel
theorem dX6_endBy_25 : decode cX6_endBy 25 = .ok (.ior, 1) := by decide +kernel
theorem dX6_endBy_26 : decode cX6_endBy 26 = .ok (.istore_n 3, 1) := by decide +kernel
theorem dX6_endBy_27 : decode cX6_endBy 27 = .ok (.goto (-22), 3) := by decide +kernel
theorem dX6_endBy_30 : decode cX6_endBy 30 = .ok (.iload_n 3, 1) := by decide +kernel
theorem dX6_endBy_31 : decode cX6_endBy 31 = .ok (.ireturn, 1) := by decide +kernel
theorem dX6_yardsBy_0 : decode cX6_yardsBy 0 = .ok (.iload_n 0, 1) := by decide +kernel
theorem dX6_yardsBy_1 : decode cX6_yardsBy 1 = .ok (.iconst 1, 1) := by decide +kernel
theorem dX6_yardsBy_2 : decode cX6_yardsBy 2 = .ok (.if_icmp .ne 7, 3) := by decide +kernel
theorem dX6_yardsBy_5 : decode cX6_yardsBy 5 = .ok (.iconst (-1), 1) := by decide +kernel
theorem dX6_yardsBy_6 : decode cX6_yardsBy 6 = .ok (.goto 18, 3) := by decide +kernel
theorem dX6_yardsBy_9 : decode cX6_yardsBy 9 = .ok (.iload_n 0, 1) := by decide +kernel
theorem dX6_yardsBy_10 : decode cX6_yardsBy 10 = .ok (.iconst 3, 1) := by decide +kernel
theorem dX6_yardsBy_11 : decode cX6_yardsBy 11 = .ok (.if_icmp .eq 8, 3) := by decide +kernel
theorem dX6_yardsBy_14 : decode cX6_yardsBy 14 = .ok (.iload_n 0, 1) := by decide +kernel
theorem dX6_yardsBy_15 : decode cX6_yardsBy 15 = .ok (.iconst 4, 1) := by decide +kernel
theorem dX6_yardsBy_16 : decode cX6_yardsBy 16 = .ok (.if_icmp .ne 7, 3) := by decide +kernel
theorem dX6_yardsBy_19 : decode cX6_yardsBy 19 = .ok (.iconst 2, 1) := by decide +kernel
theorem dX6_yardsBy_20 : decode cX6_yardsBy 20 = .ok (.goto 4, 3) := by decide +kernel
theorem dX6_yardsBy_23 : decode cX6_yardsBy 23 = .ok (.iconst 1, 1) := by decide +kernel
theorem dX6_yardsBy_24 : decode cX6_yardsBy 24 = .ok (.ireturn, 1) := by decide +kernel
theorem dX6_lengthBy_0 : decode cX6_lengthBy 0 = .ok (.iload_n 2, 1) := by decide +kernel
theorem dX6_lengthBy_1 : decode cX6_lengthBy 1 = .ok (.ineg, 1) := by decide +kernel
theorem dX6_lengthBy_2 : decode cX6_lengthBy 2 = .ok (.istore_n 3, 1) := by decide +kernel
theorem dX6_lengthBy_3 : decode cX6_lengthBy 3 = .ok (.iconst 0, 1) := by decide +kernel
theorem dX6_lengthBy_4 : decode cX6_lengthBy 4 = .ok (.istore 4, 2) := by decide +kernel
theorem dX6_lengthBy_6 : decode cX6_lengthBy 6 = .ok (.iconst 0, 1) := by decide +kernel
theorem dX6_lengthBy_7 : decode cX6_lengthBy 7 = .ok (.istore 5, 2) := by decide +kernel
theorem dX6_lengthBy_9 : decode cX6_lengthBy 9 = .ok (.iload 5, 2) := by decide +kernel
theorem dX6_lengthBy_11 : decode cX6_lengthBy 11 = .ok (.aload_n 0, 1) := by decide +kernel
theorem dX6_lengthBy_12 : decode cX6_lengthBy 12 = .ok (.getfield 68, 3) := by decide +kernel
theorem dX6_lengthBy_15 : decode cX6_lengthBy 15 = .ok (.if_icmp .ge 80, 3) := by decide +kernel
theorem dX6_lengthBy_18 : decode cX6_lengthBy 18 = .ok (.iload_n 1, 1) := by decide +kernel
theorem dX6_lengthBy_19 : decode cX6_lengthBy 19 = .ok (.iload 5, 2) := by decide +kernel
theorem dX6_lengthBy_21 : decode cX6_lengthBy 21 = .ok (.ishr, 1) := by decide +kernel
theorem dX6_lengthBy_22 : decode cX6_lengthBy 22 = .ok (.iconst 1, 1) := by decide +kernel
theorem dX6_lengthBy_23 : decode cX6_lengthBy 23 = .ok (.iand, 1) := by decide +kernel
theorem dX6_lengthBy_24 : decode cX6_lengthBy 24 = .ok (.iconst 1, 1) := by decide +kernel
theorem dX6_lengthBy_25 : decode cX6_lengthBy 25 = .ok (.if_icmp .ne 7, 3) := by decide +kernel
theorem dX6_lengthBy_28 : decode cX6_lengthBy 28 = .ok (.iconst 1, 1) := by decide +kernel
theorem dX6_lengthBy_29 : decode cX6_lengthBy 29 = .ok (.goto 4, 3) := by decide +kernel
theorem dX6_lengthBy_32 : decode cX6_lengthBy 32 = .ok (.iconst 0, 1) := by decide +kernel
theorem dX6_lengthBy_33 : decode cX6_lengthBy 33 = .ok (.istore 6, 2) := by decide +kernel
theorem dX6_lengthBy_35 : decode cX6_lengthBy 35 = .ok (.iload_n 3, 1) := by decide +kernel
theorem dX6_lengthBy_36 : decode cX6_lengthBy 36 = .ok (.iload 6, 2) := by decide +kernel
theorem dX6_lengthBy_38 : decode cX6_lengthBy 38 = .ok (.ifCond .eq 18, 3) := by decide +kernel
theorem dX6_lengthBy_41 : decode cX6_lengthBy 41 = .ok (.aload_n 0, 1) := by decide +kernel
theorem dX6_lengthBy_42 : decode cX6_lengthBy 42 = .ok (.getfield 13, 3) := by decide +kernel
theorem dX6_lengthBy_45 : decode cX6_lengthBy 45 = .ok (.iconst 2, 1) := by decide +kernel
theorem dX6_lengthBy_46 : decode cX6_lengthBy 46 = .ok (.iload 5, 2) := by decide +kernel
theorem dX6_lengthBy_48 : decode cX6_lengthBy 48 = .ok (.imul, 1) := by decide +kernel
theorem dX6_lengthBy_49 : decode cX6_lengthBy 49 = .ok (.iaload, 1) := by decide +kernel
theorem dX6_lengthBy_50 : decode cX6_lengthBy 50 = .ok (.invokestatic 98, 3) := by decide +kernel
theorem dX6_lengthBy_53 : decode cX6_lengthBy 53 = .ok (.goto 4, 3) := by decide +kernel
theorem dX6_lengthBy_56 : decode cX6_lengthBy 56 = .ok (.iconst 0, 1) := by decide +kernel
theorem dX6_lengthBy_57 : decode cX6_lengthBy 57 = .ok (.iadd, 1) := by decide +kernel
theorem dX6_lengthBy_58 : decode cX6_lengthBy 58 = .ok (.istore_n 3, 1) := by decide +kernel
theorem dX6_lengthBy_59 : decode cX6_lengthBy 59 = .ok (.iload 4, 2) := by decide +kernel
theorem dX6_lengthBy_61 : decode cX6_lengthBy 61 = .ok (.ifCond .ne 21, 3) := by decide +kernel
theorem dX6_lengthBy_64 : decode cX6_lengthBy 64 = .ok (.iload 6, 2) := by decide +kernel
theorem dX6_lengthBy_66 : decode cX6_lengthBy 66 = .ok (.ifCond .eq 20, 3) := by decide +kernel
theorem dX6_lengthBy_69 : decode cX6_lengthBy 69 = .ok (.aload_n 0, 1) := by decide +kernel
theorem dX6_lengthBy_70 : decode cX6_lengthBy 70 = .ok (.getfield 13, 3) := by decide +kernel
theorem dX6_lengthBy_73 : decode cX6_lengthBy 73 = .ok (.iconst 2, 1) := by decide +kernel
theorem dX6_lengthBy_74 : decode cX6_lengthBy 74 = .ok (.iload 5, 2) := by decide +kernel
theorem dX6_lengthBy_76 : decode cX6_lengthBy 76 = .ok (.imul, 1) := by decide +kernel
theorem dX6_lengthBy_77 : decode cX6_lengthBy 77 = .ok (.iaload, 1) := by decide +kernel
theorem dX6_lengthBy_78 : decode cX6_lengthBy 78 = .ok (.iconst 4, 1) := by decide +kernel
theorem dX6_lengthBy_79 : decode cX6_lengthBy 79 = .ok (.if_icmp .ne 7, 3) := by decide +kernel
theorem dX6_lengthBy_82 : decode cX6_lengthBy 82 = .ok (.iconst 1, 1) := by decide +kernel
theorem dX6_lengthBy_83 : decode cX6_lengthBy 83 = .ok (.goto 4, 3) := by decide +kernel
theorem dX6_lengthBy_86 : decode cX6_lengthBy 86 = .ok (.iconst 0, 1) := by decide +kernel
theorem dX6_lengthBy_87 : decode cX6_lengthBy 87 = .ok (.istore 4, 2) := by decide +kernel
theorem dX6_lengthBy_89 : decode cX6_lengthBy 89 = .ok (.iinc 5 1, 3) := by decide +kernel
theorem dX6_lengthBy_92 : decode cX6_lengthBy 92 = .ok (.goto (-83), 3) := by decide +kernel
theorem dX6_lengthBy_95 : decode cX6_lengthBy 95 = .ok (.iload_n 3, 1) := by decide +kernel
theorem dX6_lengthBy_96 : decode cX6_lengthBy 96 = .ok (.ifCond .ge 7, 3) := by decide +kernel
theorem dX6_lengthBy_99 : decode cX6_lengthBy 99 = .ok (.iconst 0, 1) := by decide +kernel
theorem dX6_lengthBy_100 : decode cX6_lengthBy 100 = .ok (.goto 4, 3) := by decide +kernel
theorem dX6_lengthBy_103 : decode cX6_lengthBy 103 = .ok (.iload_n 3, 1) := by decide +kernel
theorem dX6_lengthBy_104 : decode cX6_lengthBy 104 = .ok (.istore 5, 2) := by decide +kernel
theorem dX6_lengthBy_106 : decode cX6_lengthBy 106 = .ok (.iload 5, 2) := by decide +kernel
theorem dX6_lengthBy_108 : decode cX6_lengthBy 108 = .ok (.aload_n 0, 1) := by decide +kernel
theorem dX6_lengthBy_109 : decode cX6_lengthBy 109 = .ok (.getfield 71, 3) := by decide +kernel
theorem dX6_lengthBy_112 : decode cX6_lengthBy 112 = .ok (.if_icmp .le 15, 3) := by decide +kernel
theorem dX6_lengthBy_115 : decode cX6_lengthBy 115 = .ok (.iload 4, 2) := by decide +kernel
theorem dX6_lengthBy_117 : decode cX6_lengthBy 117 = .ok (.ifCond .ne 10, 3) := by decide +kernel
theorem dX6_lengthBy_120 : decode cX6_lengthBy 120 = .ok (.aload_n 0, 1) := by decide +kernel
theorem dX6_lengthBy_121 : decode cX6_lengthBy 121 = .ok (.getfield 71, 3) := by decide +kernel
theorem dX6_lengthBy_124 : decode cX6_lengthBy 124 = .ok (.goto 5, 3) := by decide +kernel
theorem dX6_lengthBy_127 : decode cX6_lengthBy 127 = .ok (.iload 5, 2) := by decide +kernel
theorem dX6_lengthBy_129 : decode cX6_lengthBy 129 = .ok (.ireturn, 1) := by decide +kernel
theorem dX6_endsOf_0 : decode cX6_endsOf 0 = .ok (.aload_n 0, 1) := by decide +kernel
theorem dX6_endsOf_1 : decode cX6_endsOf 1 = .ok (.aload_n 0, 1) := by decide +kernel
theorem dX6_endsOf_2 : decode cX6_endsOf 2 = .ok (.iload_n 1, 1) := by decide +kernel
theorem dX6_endsOf_3 : decode cX6_endsOf 3 = .ok (.iload_n 1, 1) := by decide +kernel
theorem dX6_endsOf_4 : decode cX6_endsOf 4 = .ok (.invokevirtual 101, 3) := by decide +kernel
theorem dX6_endsOf_7 : decode cX6_endsOf 7 = .ok (.iconst 0, 1) := by decide +kernel
theorem dX6_endsOf_8 : decode cX6_endsOf 8 = .ok (.invokevirtual 105, 3) := by decide +kernel
theorem dX6_endsOf_11 : decode cX6_endsOf 11 = .ok (.ireturn, 1) := by decide +kernel
theorem dX6_dayOf_0 : decode cX6_dayOf 0 = .ok (.iconst 1, 1) := by decide +kernel
theorem dX6_dayOf_1 : decode cX6_dayOf 1 = .ok (.iload_n 2, 1) := by decide +kernel
theorem dX6_dayOf_2 : decode cX6_dayOf 2 = .ok (.ishl, 1) := by decide +kernel
theorem dX6_dayOf_3 : decode cX6_dayOf 3 = .ok (.istore_n 3, 1) := by decide +kernel
theorem dX6_dayOf_4 : decode cX6_dayOf 4 = .ok (.iload_n 3, 1) := by decide +kernel
theorem dX6_dayOf_5 : decode cX6_dayOf 5 = .ok (.istore 4, 2) := by decide +kernel
theorem dX6_dayOf_7 : decode cX6_dayOf 7 = .ok (.iconst 0, 1) := by decide +kernel
theorem dX6_dayOf_8 : decode cX6_dayOf 8 = .ok (.istore 5, 2) := by decide +kernel
theorem dX6_dayOf_10 : decode cX6_dayOf 10 = .ok (.iload 4, 2) := by decide +kernel
theorem dX6_dayOf_12 : decode cX6_dayOf 12 = .ok (.ifCond .eq 35, 3) := by decide +kernel
theorem dX6_dayOf_15 : decode cX6_dayOf 15 = .ok (.iload 4, 2) := by decide +kernel
theorem dX6_dayOf_17 : decode cX6_dayOf 17 = .ok (.iload_n 1, 1) := by decide +kernel
theorem dX6_dayOf_18 : decode cX6_dayOf 18 = .ok (.ishr, 1) := by decide +kernel
theorem dX6_dayOf_19 : decode cX6_dayOf 19 = .ok (.iconst 1, 1) := by decide +kernel
theorem dX6_dayOf_20 : decode cX6_dayOf 20 = .ok (.iand, 1) := by decide +kernel
theorem dX6_dayOf_21 : decode cX6_dayOf 21 = .ok (.ifCond .ne 26, 3) := by decide +kernel
theorem dX6_dayOf_24 : decode cX6_dayOf 24 = .ok (.aload_n 0, 1) := by decide +kernel
theorem dX6_dayOf_25 : decode cX6_dayOf 25 = .ok (.iload 4, 2) := by decide +kernel
theorem dX6_dayOf_27 : decode cX6_dayOf 27 = .ok (.invokevirtual 95, 3) := by decide +kernel
theorem dX6_dayOf_30 : decode cX6_dayOf 30 = .ok (.iload_n 3, 1) := by decide +kernel
theorem dX6_dayOf_31 : decode cX6_dayOf 31 = .ok (.iconst (-1), 1) := by decide +kernel
theorem dX6_dayOf_32 : decode cX6_dayOf 32 = .ok (.ixor, 1) := by decide +kernel
theorem dX6_dayOf_33 : decode cX6_dayOf 33 = .ok (.iand, 1) := by decide +kernel
theorem dX6_dayOf_34 : decode cX6_dayOf 34 = .ok (.istore 4, 2) := by decide +kernel
theorem dX6_dayOf_36 : decode cX6_dayOf 36 = .ok (.iload_n 3, 1) := by decide +kernel
theorem dX6_dayOf_37 : decode cX6_dayOf 37 = .ok (.iload 4, 2) := by decide +kernel
theorem dX6_dayOf_39 : decode cX6_dayOf 39 = .ok (.ior, 1) := by decide +kernel
theorem dX6_dayOf_40 : decode cX6_dayOf 40 = .ok (.istore_n 3, 1) := by decide +kernel
theorem dX6_dayOf_41 : decode cX6_dayOf 41 = .ok (.iinc 5 1, 3) := by decide +kernel
theorem dX6_dayOf_44 : decode cX6_dayOf 44 = .ok (.goto (-34), 3) := by decide +kernel
theorem dX6_dayOf_47 : decode cX6_dayOf 47 = .ok (.iload 4, 2) := by decide +kernel
theorem dX6_dayOf_49 : decode cX6_dayOf 49 = .ok (.ifCond .ne 7, 3) := by decide +kernel
theorem dX6_dayOf_52 : decode cX6_dayOf 52 = .ok (.iconst (-1), 1) := by decide +kernel
theorem dX6_dayOf_53 : decode cX6_dayOf 53 = .ok (.goto 5, 3) := by decide +kernel
theorem dX6_dayOf_56 : decode cX6_dayOf 56 = .ok (.iload 5, 2) := by decide +kernel
theorem dX6_dayOf_58 : decode cX6_dayOf 58 = .ok (.ireturn, 1) := by decide +kernel
theorem dX6_lastsOf_0 : decode cX6_lastsOf 0 = .ok (.iconst 0, 1) := by decide +kernel
theorem dX6_lastsOf_1 : decode cX6_lastsOf 1 = .ok (.istore_n 2, 1) := by decide +kernel
theorem dX6_lastsOf_2 : decode cX6_lastsOf 2 = .ok (.iconst 0, 1) := by decide +kernel
theorem dX6_lastsOf_3 : decode cX6_lastsOf 3 = .ok (.istore_n 3, 1) := by decide +kernel
theorem dX6_lastsOf_4 : decode cX6_lastsOf 4 = .ok (.iload_n 3, 1) := by decide +kernel
theorem dX6_lastsOf_5 : decode cX6_lastsOf 5 = .ok (.aload_n 0, 1) := by decide +kernel
theorem dX6_lastsOf_6 : decode cX6_lastsOf 6 = .ok (.getfield 68, 3) := by decide +kernel
theorem dX6_lastsOf_9 : decode cX6_lastsOf 9 = .ok (.if_icmp .ge 30, 3) := by decide +kernel
theorem dX6_lastsOf_12 : decode cX6_lastsOf 12 = .ok (.aload_n 0, 1) := by decide +kernel
theorem dX6_lastsOf_13 : decode cX6_lastsOf 13 = .ok (.iload_n 3, 1) := by decide +kernel
theorem dX6_lastsOf_14 : decode cX6_lastsOf 14 = .ok (.iload_n 1, 1) := by decide +kernel
theorem dX6_lastsOf_15 : decode cX6_lastsOf 15 = .ok (.invokevirtual 108, 3) := by decide +kernel
theorem dX6_lastsOf_18 : decode cX6_lastsOf 18 = .ok (.istore 4, 2) := by decide +kernel
theorem dX6_lastsOf_20 : decode cX6_lastsOf 20 = .ok (.iload 4, 2) := by decide +kernel
theorem dX6_lastsOf_22 : decode cX6_lastsOf 22 = .ok (.iload_n 2, 1) := by decide +kernel
theorem dX6_lastsOf_23 : decode cX6_lastsOf 23 = .ok (.if_icmp .le 8, 3) := by decide +kernel
theorem dX6_lastsOf_26 : decode cX6_lastsOf 26 = .ok (.iload 4, 2) := by decide +kernel
theorem dX6_lastsOf_28 : decode cX6_lastsOf 28 = .ok (.goto 4, 3) := by decide +kernel
theorem dX6_lastsOf_31 : decode cX6_lastsOf 31 = .ok (.iload_n 2, 1) := by decide +kernel
theorem dX6_lastsOf_32 : decode cX6_lastsOf 32 = .ok (.istore_n 2, 1) := by decide +kernel
theorem dX6_lastsOf_33 : decode cX6_lastsOf 33 = .ok (.iinc 3 1, 3) := by decide +kernel
theorem dX6_lastsOf_36 : decode cX6_lastsOf 36 = .ok (.goto (-32), 3) := by decide +kernel
theorem dX6_lastsOf_39 : decode cX6_lastsOf 39 = .ok (.iload_n 2, 1) := by decide +kernel
theorem dX6_lastsOf_40 : decode cX6_lastsOf 40 = .ok (.ireturn, 1) := by decide +kernel
theorem dX6_tunnelsOf_0 : decode cX6_tunnelsOf 0 = .ok (.iconst 0, 1) := by decide +kernel
theorem dX6_tunnelsOf_1 : decode cX6_tunnelsOf 1 = .ok (.istore_n 2, 1) := by decide +kernel
theorem dX6_tunnelsOf_2 : decode cX6_tunnelsOf 2 = .ok (.iconst 0, 1) := by decide +kernel
theorem dX6_tunnelsOf_3 : decode cX6_tunnelsOf 3 = .ok (.istore_n 3, 1) := by decide +kernel
theorem dX6_tunnelsOf_4 : decode cX6_tunnelsOf 4 = .ok (.iload_n 3, 1) := by decide +kernel
theorem dX6_tunnelsOf_5 : decode cX6_tunnelsOf 5 = .ok (.iconst 3, 1) := by decide +kernel
theorem dX6_tunnelsOf_6 : decode cX6_tunnelsOf 6 = .ok (.if_icmp .ge 26, 3) := by decide +kernel
theorem dX6_tunnelsOf_9 : decode cX6_tunnelsOf 9 = .ok (.iload_n 2, 1) := by decide +kernel
theorem dX6_tunnelsOf_10 : decode cX6_tunnelsOf 10 = .ok (.aload_n 0, 1) := by decide +kernel
theorem dX6_tunnelsOf_11 : decode cX6_tunnelsOf 11 = .ok (.getfield 16, 3) := by decide +kernel
theorem dX6_tunnelsOf_14 : decode cX6_tunnelsOf 14 = .ok (.iconst 3, 1) := by decide +kernel
theorem dX6_tunnelsOf_15 : decode cX6_tunnelsOf 15 = .ok (.iload_n 3, 1) := by decide +kernel
theorem dX6_tunnelsOf_16 : decode cX6_tunnelsOf 16 = .ok (.imul, 1) := by decide +kernel
theorem dX6_tunnelsOf_17 : decode cX6_tunnelsOf 17 = .ok (.iaload, 1) := by decide +kernel
theorem dX6_tunnelsOf_18 : decode cX6_tunnelsOf 18 = .ok (.iload_n 1, 1) := by decide +kernel
theorem dX6_tunnelsOf_19 : decode cX6_tunnelsOf 19 = .ok (.ishr, 1) := by decide +kernel
theorem dX6_tunnelsOf_20 : decode cX6_tunnelsOf 20 = .ok (.iconst 1, 1) := by decide +kernel
theorem dX6_tunnelsOf_21 : decode cX6_tunnelsOf 21 = .ok (.iand, 1) := by decide +kernel
theorem dX6_tunnelsOf_22 : decode cX6_tunnelsOf 22 = .ok (.iload_n 3, 1) := by decide +kernel
theorem dX6_tunnelsOf_23 : decode cX6_tunnelsOf 23 = .ok (.ishl, 1) := by decide +kernel
theorem dX6_tunnelsOf_24 : decode cX6_tunnelsOf 24 = .ok (.ior, 1) := by decide +kernel
theorem dX6_tunnelsOf_25 : decode cX6_tunnelsOf 25 = .ok (.istore_n 2, 1) := by decide +kernel
theorem dX6_tunnelsOf_26 : decode cX6_tunnelsOf 26 = .ok (.iinc 3 1, 3) := by decide +kernel
theorem dX6_tunnelsOf_29 : decode cX6_tunnelsOf 29 = .ok (.goto (-25), 3) := by decide +kernel
theorem dX6_tunnelsOf_32 : decode cX6_tunnelsOf 32 = .ok (.iload_n 2, 1) := by decide +kernel
theorem dX6_tunnelsOf_33 : decode cX6_tunnelsOf 33 = .ok (.ireturn, 1) := by decide +kernel
theorem dX6_tellPerson_0 : decode cX6_tellPerson 0 = .ok (.iload_n 2, 1) := by decide +kernel
theorem dX6_tellPerson_1 : decode cX6_tellPerson 1 = .ok (.tableswitch 76 0 5 #[39, 39, 50, 56, 62, 70], 39) := by decide +kernel
theorem dX6_tellPerson_40 : decode cX6_tellPerson 40 = .ok (.aload_n 0, 1) := by decide +kernel
theorem dX6_tellPerson_41 : decode cX6_tellPerson 41 = .ok (.getfield 13, 3) := by decide +kernel
theorem dX6_tellPerson_44 : decode cX6_tellPerson 44 = .ok (.iconst 2, 1) := by decide +kernel
theorem dX6_tellPerson_45 : decode cX6_tellPerson 45 = .ok (.iload_n 1, 1) := by decide +kernel
theorem dX6_tellPerson_46 : decode cX6_tellPerson 46 = .ok (.imul, 1) := by decide +kernel
theorem dX6_tellPerson_47 : decode cX6_tellPerson 47 = .ok (.iload_n 2, 1) := by decide +kernel
theorem dX6_tellPerson_48 : decode cX6_tellPerson 48 = .ok (.iadd, 1) := by decide +kernel
theorem dX6_tellPerson_49 : decode cX6_tellPerson 49 = .ok (.iaload, 1) := by decide +kernel
theorem dX6_tellPerson_50 : decode cX6_tellPerson 50 = .ok (.ireturn, 1) := by decide +kernel
theorem dX6_tellPerson_51 : decode cX6_tellPerson 51 = .ok (.aload_n 0, 1) := by decide +kernel
theorem dX6_tellPerson_52 : decode cX6_tellPerson 52 = .ok (.iload_n 1, 1) := by decide +kernel
theorem dX6_tellPerson_53 : decode cX6_tellPerson 53 = .ok (.invokevirtual 92, 3) := by decide +kernel
theorem dX6_tellPerson_56 : decode cX6_tellPerson 56 = .ok (.ireturn, 1) := by decide +kernel
theorem dX6_tellPerson_57 : decode cX6_tellPerson 57 = .ok (.aload_n 0, 1) := by decide +kernel
theorem dX6_tellPerson_58 : decode cX6_tellPerson 58 = .ok (.iload_n 1, 1) := by decide +kernel
theorem dX6_tellPerson_59 : decode cX6_tellPerson 59 = .ok (.invokevirtual 111, 3) := by decide +kernel
theorem dX6_tellPerson_62 : decode cX6_tellPerson 62 = .ok (.ireturn, 1) := by decide +kernel
theorem dX6_tellPerson_63 : decode cX6_tellPerson 63 = .ok (.aload_n 0, 1) := by decide +kernel
theorem dX6_tellPerson_64 : decode cX6_tellPerson 64 = .ok (.iconst 1, 1) := by decide +kernel
theorem dX6_tellPerson_65 : decode cX6_tellPerson 65 = .ok (.iload_n 1, 1) := by decide +kernel
theorem dX6_tellPerson_66 : decode cX6_tellPerson 66 = .ok (.ishl, 1) := by decide +kernel
theorem dX6_tellPerson_67 : decode cX6_tellPerson 67 = .ok (.invokevirtual 114, 3) := by decide +kernel
theorem dX6_tellPerson_70 : decode cX6_tellPerson 70 = .ok (.ireturn, 1) := by decide +kernel
theorem dX6_tellPerson_71 : decode cX6_tellPerson 71 = .ok (.aload_n 0, 1) := by decide +kernel
theorem dX6_tellPerson_72 : decode cX6_tellPerson 72 = .ok (.iload_n 1, 1) := by decide +kernel
theorem dX6_tellPerson_73 : decode cX6_tellPerson 73 = .ok (.invokevirtual 117, 3) := by decide +kernel
theorem dX6_tellPerson_76 : decode cX6_tellPerson 76 = .ok (.ireturn, 1) := by decide +kernel
theorem dX6_tellPerson_77 : decode cX6_tellPerson 77 = .ok (.bipush (-102), 2) := by decide +kernel
theorem dX6_tellPerson_79 : decode cX6_tellPerson 79 = .ok (.ireturn, 1) := by decide +kernel
theorem dX6_person_0 : decode cX6_person 0 = .ok (.aload_n 0, 1) := by decide +kernel
theorem dX6_person_1 : decode cX6_person 1 = .ok (.iload_n 1, 1) := by decide +kernel
theorem dX6_person_2 : decode cX6_person 2 = .ok (.invokevirtual 120, 3) := by decide +kernel
theorem dX6_person_5 : decode cX6_person 5 = .ok (.ifCond .eq 12, 3) := by decide +kernel
theorem dX6_person_8 : decode cX6_person 8 = .ok (.aload_n 0, 1) := by decide +kernel
theorem dX6_person_9 : decode cX6_person 9 = .ok (.iload_n 1, 1) := by decide +kernel
theorem dX6_person_10 : decode cX6_person 10 = .ok (.iload_n 2, 1) := by decide +kernel
theorem dX6_person_11 : decode cX6_person 11 = .ok (.invokevirtual 123, 3) := by decide +kernel
theorem dX6_person_14 : decode cX6_person 14 = .ok (.goto 5, 3) := by decide +kernel
theorem dX6_person_17 : decode cX6_person 17 = .ok (.bipush (-101), 2) := by decide +kernel
theorem dX6_person_19 : decode cX6_person 19 = .ok (.ireturn, 1) := by decide +kernel
theorem dX6_as_0 : decode cX6_as 0 = .ok (.aload_n 0, 1) := by decide +kernel
theorem dX6_as_1 : decode cX6_as 1 = .ok (.iload_n 1, 1) := by decide +kernel
theorem dX6_as_2 : decode cX6_as 2 = .ok (.invokevirtual 120, 3) := by decide +kernel
theorem dX6_as_5 : decode cX6_as 5 = .ok (.ifCond .ne 6, 3) := by decide +kernel
theorem dX6_as_8 : decode cX6_as 8 = .ok (.bipush (-101), 2) := by decide +kernel
theorem dX6_as_10 : decode cX6_as 10 = .ok (.ireturn, 1) := by decide +kernel
theorem dX6_as_11 : decode cX6_as 11 = .ok (.iload_n 2, 1) := by decide +kernel
theorem dX6_as_12 : decode cX6_as 12 = .ok (.i2l, 1) := by decide +kernel
theorem dX6_as_13 : decode cX6_as 13 = .ok (.lconst 0, 1) := by decide +kernel
theorem dX6_as_14 : decode cX6_as 14 = .ok (.ldc2_w 126, 3) := by decide +kernel
theorem dX6_as_17 : decode cX6_as 17 = .ok (.invokestatic 40, 3) := by decide +kernel
theorem dX6_as_20 : decode cX6_as 20 = .ok (.ifCond .ne 6, 3) := by decide +kernel
theorem dX6_as_23 : decode cX6_as 23 = .ok (.bipush (-102), 2) := by decide +kernel
theorem dX6_as_25 : decode cX6_as 25 = .ok (.ireturn, 1) := by decide +kernel
theorem dX6_as_26 : decode cX6_as 26 = .ok (.aload_n 0, 1) := by decide +kernel
theorem dX6_as_27 : decode cX6_as 27 = .ok (.getfield 13, 3) := by decide +kernel
theorem dX6_as_30 : decode cX6_as 30 = .ok (.iconst 2, 1) := by decide +kernel
theorem dX6_as_31 : decode cX6_as 31 = .ok (.iload_n 1, 1) := by decide +kernel
theorem dX6_as_32 : decode cX6_as 32 = .ok (.imul, 1) := by decide +kernel
theorem dX6_as_33 : decode cX6_as 33 = .ok (.iaload, 1) := by decide +kernel
theorem dX6_as_34 : decode cX6_as 34 = .ok (.istore_n 3, 1) := by decide +kernel
theorem dX6_as_35 : decode cX6_as 35 = .ok (.iload_n 2, 1) := by decide +kernel
theorem dX6_as_36 : decode cX6_as 36 = .ok (.ifCond .eq 18, 3) := by decide +kernel
theorem dX6_as_39 : decode cX6_as 39 = .ok (.iload_n 2, 1) := by decide +kernel
theorem dX6_as_40 : decode cX6_as 40 = .ok (.iload_n 3, 1) := by decide +kernel
theorem dX6_as_41 : decode cX6_as 41 = .ok (.if_icmp .eq 13, 3) := by decide +kernel
theorem dX6_as_44 : decode cX6_as 44 = .ok (.iload_n 2, 1) := by decide +kernel
theorem dX6_as_45 : decode cX6_as 45 = .ok (.iconst 2, 1) := by decide +kernel
theorem dX6_as_46 : decode cX6_as 46 = .ok (.if_icmp .ne 12, 3) := by decide +kernel
theorem dX6_as_49 : decode cX6_as 49 = .ok (.iload_n 3, 1) := by decide +kernel
theorem dX6_as_50 : decode cX6_as 50 = .ok (.iconst 4, 1) := by decide +kernel
theorem dX6_as_51 : decode cX6_as 51 = .ok (.if_icmp .ne 7, 3) := by decide +kernel
theorem dX6_as_54 : decode cX6_as 54 = .ok (.iconst 1, 1) := by decide +kernel
theorem dX6_as_55 : decode cX6_as 55 = .ok (.goto 4, 3) := by decide +kernel
theorem dX6_as_58 : decode cX6_as 58 = .ok (.iconst 0, 1) := by decide +kernel
theorem dX6_as_59 : decode cX6_as 59 = .ok (.istore 4, 2) := by decide +kernel
theorem dX6_as_61 : decode cX6_as 61 = .ok (.iload 4, 2) := by decide +kernel
theorem dX6_as_63 : decode cX6_as 63 = .ok (.ifCond .eq 7, 3) := by decide +kernel
theorem dX6_as_66 : decode cX6_as 66 = .ok (.iload_n 1, 1) := by decide +kernel
theorem dX6_as_67 : decode cX6_as 67 = .ok (.goto 4, 3) := by decide +kernel
theorem dX6_as_70 : decode cX6_as 70 = .ok (.iconst (-1), 1) := by decide +kernel
theorem dX6_as_71 : decode cX6_as 71 = .ok (.ireturn, 1) := by decide +kernel
theorem dX6_next_0 : decode cX6_next 0 = .ok (.aload_n 0, 1) := by decide +kernel
theorem dX6_next_1 : decode cX6_next 1 = .ok (.iload_n 1, 1) := by decide +kernel
theorem dX6_next_2 : decode cX6_next 2 = .ok (.invokevirtual 120, 3) := by decide +kernel
theorem dX6_next_5 : decode cX6_next 5 = .ok (.ifCond .eq 16, 3) := by decide +kernel
theorem dX6_next_8 : decode cX6_next 8 = .ok (.iload_n 2, 1) := by decide +kernel
theorem dX6_next_9 : decode cX6_next 9 = .ok (.iconst (-1), 1) := by decide +kernel
theorem dX6_next_10 : decode cX6_next 10 = .ok (.if_icmp .eq 14, 3) := by decide +kernel
theorem dX6_next_13 : decode cX6_next 13 = .ok (.aload_n 0, 1) := by decide +kernel
theorem dX6_next_14 : decode cX6_next 14 = .ok (.iload_n 2, 1) := by decide +kernel
theorem dX6_next_15 : decode cX6_next 15 = .ok (.invokevirtual 120, 3) := by decide +kernel
theorem dX6_next_18 : decode cX6_next 18 = .ok (.ifCond .ne 6, 3) := by decide +kernel
theorem dX6_next_21 : decode cX6_next 21 = .ok (.bipush (-101), 2) := by decide +kernel
theorem dX6_next_23 : decode cX6_next 23 = .ok (.ireturn, 1) := by decide +kernel
theorem dX6_next_24 : decode cX6_next 24 = .ok (.aload_n 0, 1) := by decide +kernel
theorem dX6_next_25 : decode cX6_next 25 = .ok (.getfield 13, 3) := by decide +kernel
theorem dX6_next_28 : decode cX6_next 28 = .ok (.iconst 2, 1) := by decide +kernel
theorem dX6_next_29 : decode cX6_next 29 = .ok (.iload_n 1, 1) := by decide +kernel
theorem dX6_next_30 : decode cX6_next 30 = .ok (.imul, 1) := by decide +kernel
theorem dX6_next_31 : decode cX6_next 31 = .ok (.iconst 1, 1) := by decide +kernel
theorem dX6_next_32 : decode cX6_next 32 = .ok (.iadd, 1) := by decide +kernel
theorem dX6_next_33 : decode cX6_next 33 = .ok (.iaload, 1) := by decide +kernel
theorem dX6_next_34 : decode cX6_next 34 = .ok (.istore_n 3, 1) := by decide +kernel
theorem dX6_next_35 : decode cX6_next 35 = .ok (.aload_n 0, 1) := by decide +kernel
theorem dX6_next_36 : decode cX6_next 36 = .ok (.getfield 13, 3) := by decide +kernel
theorem dX6_next_39 : decode cX6_next 39 = .ok (.iconst 2, 1) := by decide +kernel
theorem dX6_next_40 : decode cX6_next 40 = .ok (.iload_n 1, 1) := by decide +kernel
theorem dX6_next_41 : decode cX6_next 41 = .ok (.imul, 1) := by decide +kernel
theorem dX6_next_42 : decode cX6_next 42 = .ok (.iconst 1, 1) := by decide +kernel
theorem dX6_next_43 : decode cX6_next 43 = .ok (.iadd, 1) := by decide +kernel
theorem dX6_next_44 : decode cX6_next 44 = .ok (.iload_n 2, 1) := by decide +kernel
theorem dX6_next_45 : decode cX6_next 45 = .ok (.iload_n 1, 1) := by decide +kernel
theorem dX6_next_46 : decode cX6_next 46 = .ok (.if_icmp .ne 7, 3) := by decide +kernel
theorem dX6_next_49 : decode cX6_next 49 = .ok (.iconst (-1), 1) := by decide +kernel
theorem dX6_next_50 : decode cX6_next 50 = .ok (.goto 4, 3) := by decide +kernel
theorem dX6_next_53 : decode cX6_next 53 = .ok (.iload_n 2, 1) := by decide +kernel
theorem dX6_next_54 : decode cX6_next 54 = .ok (.iastore, 1) := by decide +kernel
theorem dX6_next_55 : decode cX6_next 55 = .ok (.aload_n 0, 1) := by decide +kernel
theorem dX6_next_56 : decode cX6_next 56 = .ok (.dup, 1) := by decide +kernel
theorem dX6_next_57 : decode cX6_next 57 = .ok (.getfield 77, 3) := by decide +kernel
theorem dX6_next_60 : decode cX6_next 60 = .ok (.iconst 1, 1) := by decide +kernel
theorem dX6_next_61 : decode cX6_next 61 = .ok (.iadd, 1) := by decide +kernel
theorem dX6_next_62 : decode cX6_next 62 = .ok (.putfield 77, 3) := by decide +kernel
theorem dX6_next_65 : decode cX6_next 65 = .ok (.iload_n 3, 1) := by decide +kernel
theorem dX6_next_66 : decode cX6_next 66 = .ok (.ireturn, 1) := by decide +kernel
theorem dX6_lengthOf_0 : decode cX6_lengthOf 0 = .ok (.aload_n 0, 1) := by decide +kernel
theorem dX6_lengthOf_1 : decode cX6_lengthOf 1 = .ok (.aload_n 0, 1) := by decide +kernel
theorem dX6_lengthOf_2 : decode cX6_lengthOf 2 = .ok (.getfield 16, 3) := by decide +kernel
theorem dX6_lengthOf_5 : decode cX6_lengthOf 5 = .ok (.iconst 3, 1) := by decide +kernel
theorem dX6_lengthOf_6 : decode cX6_lengthOf 6 = .ok (.iload_n 1, 1) := by decide +kernel
theorem dX6_lengthOf_7 : decode cX6_lengthOf 7 = .ok (.imul, 1) := by decide +kernel
theorem dX6_lengthOf_8 : decode cX6_lengthOf 8 = .ok (.iaload, 1) := by decide +kernel
theorem dX6_lengthOf_9 : decode cX6_lengthOf 9 = .ok (.aload_n 0, 1) := by decide +kernel
theorem dX6_lengthOf_10 : decode cX6_lengthOf 10 = .ok (.getfield 16, 3) := by decide +kernel
theorem dX6_lengthOf_13 : decode cX6_lengthOf 13 = .ok (.iconst 3, 1) := by decide +kernel
theorem dX6_lengthOf_14 : decode cX6_lengthOf 14 = .ok (.iload_n 1, 1) := by decide +kernel
theorem dX6_lengthOf_15 : decode cX6_lengthOf 15 = .ok (.imul, 1) := by decide +kernel
theorem dX6_lengthOf_16 : decode cX6_lengthOf 16 = .ok (.iconst 2, 1) := by decide +kernel
theorem dX6_lengthOf_17 : decode cX6_lengthOf 17 = .ok (.iadd, 1) := by decide +kernel
theorem dX6_lengthOf_18 : decode cX6_lengthOf 18 = .ok (.iaload, 1) := by decide +kernel
theorem dX6_lengthOf_19 : decode cX6_lengthOf 19 = .ok (.invokevirtual 105, 3) := by decide +kernel
theorem dX6_lengthOf_22 : decode cX6_lengthOf 22 = .ok (.ireturn, 1) := by decide +kernel
theorem dX6_tell_0 : decode cX6_tell 0 = .ok (.aload_n 0, 1) := by decide +kernel
theorem dX6_tell_1 : decode cX6_tell 1 = .ok (.iload_n 1, 1) := by decide +kernel
theorem dX6_tell_2 : decode cX6_tell 2 = .ok (.invokevirtual 128, 3) := by decide +kernel
theorem dX6_tell_5 : decode cX6_tell 5 = .ok (.ifCond .eq 11, 3) := by decide +kernel
theorem dX6_tell_8 : decode cX6_tell 8 = .ok (.aload_n 0, 1) := by decide +kernel
theorem dX6_tell_9 : decode cX6_tell 9 = .ok (.iload_n 2, 1) := by decide +kernel
theorem dX6_tell_10 : decode cX6_tell 10 = .ok (.invokevirtual 120, 3) := by decide +kernel
theorem dX6_tell_13 : decode cX6_tell 13 = .ok (.ifCond .ne 6, 3) := by decide +kernel
theorem dX6_tell_16 : decode cX6_tell 16 = .ok (.bipush (-101), 2) := by decide +kernel
theorem dX6_tell_18 : decode cX6_tell 18 = .ok (.ireturn, 1) := by decide +kernel
theorem dX6_tell_19 : decode cX6_tell 19 = .ok (.aload_n 0, 1) := by decide +kernel
theorem dX6_tell_20 : decode cX6_tell 20 = .ok (.getfield 16, 3) := by decide +kernel
theorem dX6_tell_23 : decode cX6_tell 23 = .ok (.iconst 3, 1) := by decide +kernel
theorem dX6_tell_24 : decode cX6_tell 24 = .ok (.iload_n 1, 1) := by decide +kernel
theorem dX6_tell_25 : decode cX6_tell 25 = .ok (.imul, 1) := by decide +kernel
theorem dX6_tell_26 : decode cX6_tell 26 = .ok (.iaload, 1) := by decide +kernel
theorem dX6_tell_27 : decode cX6_tell 27 = .ok (.iload_n 2, 1) := by decide +kernel
theorem dX6_tell_28 : decode cX6_tell 28 = .ok (.ishr, 1) := by decide +kernel
theorem dX6_tell_29 : decode cX6_tell 29 = .ok (.iconst 1, 1) := by decide +kernel
theorem dX6_tell_30 : decode cX6_tell 30 = .ok (.iand, 1) := by decide +kernel
theorem dX6_tell_31 : decode cX6_tell 31 = .ok (.iconst 1, 1) := by decide +kernel
theorem dX6_tell_32 : decode cX6_tell 32 = .ok (.if_icmp .ne 6, 3) := by decide +kernel
theorem dX6_tell_35 : decode cX6_tell 35 = .ok (.bipush (-103), 2) := by decide +kernel
theorem dX6_tell_37 : decode cX6_tell 37 = .ok (.ireturn, 1) := by decide +kernel
theorem dX6_tell_38 : decode cX6_tell 38 = .ok (.aload_n 0, 1) := by decide +kernel
theorem dX6_tell_39 : decode cX6_tell 39 = .ok (.getfield 16, 3) := by decide +kernel
theorem dX6_tell_42 : decode cX6_tell 42 = .ok (.iconst 3, 1) := by decide +kernel
theorem dX6_tell_43 : decode cX6_tell 43 = .ok (.iload_n 1, 1) := by decide +kernel
theorem dX6_tell_44 : decode cX6_tell 44 = .ok (.imul, 1) := by decide +kernel
theorem dX6_tell_45 : decode cX6_tell 45 = .ok (.dup2, 1) := by decide +kernel
theorem dX6_tell_46 : decode cX6_tell 46 = .ok (.iaload, 1) := by decide +kernel
theorem dX6_tell_47 : decode cX6_tell 47 = .ok (.iconst 1, 1) := by decide +kernel
theorem dX6_tell_48 : decode cX6_tell 48 = .ok (.iload_n 2, 1) := by decide +kernel
theorem dX6_tell_49 : decode cX6_tell 49 = .ok (.ishl, 1) := by decide +kernel
theorem dX6_tell_50 : decode cX6_tell 50 = .ok (.ior, 1) := by decide +kernel
theorem dX6_tell_51 : decode cX6_tell 51 = .ok (.iastore, 1) := by decide +kernel
theorem dX6_tell_52 : decode cX6_tell 52 = .ok (.aload_n 0, 1) := by decide +kernel
theorem dX6_tell_53 : decode cX6_tell 53 = .ok (.getfield 16, 3) := by decide +kernel
theorem dX6_tell_56 : decode cX6_tell 56 = .ok (.iconst 3, 1) := by decide +kernel
theorem dX6_tell_57 : decode cX6_tell 57 = .ok (.iload_n 1, 1) := by decide +kernel
theorem dX6_tell_58 : decode cX6_tell 58 = .ok (.imul, 1) := by decide +kernel
theorem dX6_tell_59 : decode cX6_tell 59 = .ok (.iconst 1, 1) := by decide +kernel
theorem dX6_tell_60 : decode cX6_tell 60 = .ok (.iadd, 1) := by decide +kernel
theorem dX6_tell_61 : decode cX6_tell 61 = .ok (.dup2, 1) := by decide +kernel
theorem dX6_tell_62 : decode cX6_tell 62 = .ok (.iaload, 1) := by decide +kernel
theorem dX6_tell_63 : decode cX6_tell 63 = .ok (.iconst 1, 1) := by decide +kernel
theorem dX6_tell_64 : decode cX6_tell 64 = .ok (.iload_n 2, 1) := by decide +kernel
theorem dX6_tell_65 : decode cX6_tell 65 = .ok (.ishl, 1) := by decide +kernel
theorem dX6_tell_66 : decode cX6_tell 66 = .ok (.ior, 1) := by decide +kernel
theorem dX6_tell_67 : decode cX6_tell 67 = .ok (.iastore, 1) := by decide +kernel
theorem dX6_tell_68 : decode cX6_tell 68 = .ok (.aload_n 0, 1) := by decide +kernel
theorem dX6_tell_69 : decode cX6_tell 69 = .ok (.iload_n 1, 1) := by decide +kernel
theorem dX6_tell_70 : decode cX6_tell 70 = .ok (.invokevirtual 131, 3) := by decide +kernel
theorem dX6_tell_73 : decode cX6_tell 73 = .ok (.ireturn, 1) := by decide +kernel
theorem dX6_day_0 : decode cX6_day 0 = .ok (.aload_n 0, 1) := by decide +kernel
theorem dX6_day_1 : decode cX6_day 1 = .ok (.invokevirtual 86, 3) := by decide +kernel
theorem dX6_day_4 : decode cX6_day 4 = .ok (.ifCond .eq 6, 3) := by decide +kernel
theorem dX6_day_7 : decode cX6_day 7 = .ok (.bipush (-103), 2) := by decide +kernel
theorem dX6_day_9 : decode cX6_day 9 = .ok (.ireturn, 1) := by decide +kernel
theorem dX6_day_10 : decode cX6_day 10 = .ok (.aload_n 0, 1) := by decide +kernel
theorem dX6_day_11 : decode cX6_day 11 = .ok (.getfield 74, 3) := by decide +kernel
theorem dX6_day_14 : decode cX6_day 14 = .ok (.bipush 99, 2) := by decide +kernel
theorem dX6_day_16 : decode cX6_day 16 = .ok (.if_icmp .ne 6, 3) := by decide +kernel
theorem dX6_day_19 : decode cX6_day 19 = .ok (.bipush (-104), 2) := by decide +kernel
theorem dX6_day_21 : decode cX6_day 21 = .ok (.ireturn, 1) := by decide +kernel
theorem dX6_day_22 : decode cX6_day 22 = .ok (.aload_n 0, 1) := by decide +kernel
theorem dX6_day_23 : decode cX6_day 23 = .ok (.dup, 1) := by decide +kernel
theorem dX6_day_24 : decode cX6_day 24 = .ok (.getfield 74, 3) := by decide +kernel
theorem dX6_day_27 : decode cX6_day 27 = .ok (.iconst 1, 1) := by decide +kernel
theorem dX6_day_28 : decode cX6_day 28 = .ok (.iadd, 1) := by decide +kernel
theorem dX6_day_29 : decode cX6_day 29 = .ok (.putfield 74, 3) := by decide +kernel
theorem dX6_day_32 : decode cX6_day 32 = .ok (.iconst 0, 1) := by decide +kernel
theorem dX6_day_33 : decode cX6_day 33 = .ok (.istore_n 1, 1) := by decide +kernel
theorem dX6_day_34 : decode cX6_day 34 = .ok (.iconst 0, 1) := by decide +kernel
theorem dX6_day_35 : decode cX6_day 35 = .ok (.istore_n 2, 1) := by decide +kernel
theorem dX6_day_36 : decode cX6_day 36 = .ok (.iload_n 2, 1) := by decide +kernel
theorem dX6_day_37 : decode cX6_day 37 = .ok (.iconst 3, 1) := by decide +kernel
theorem dX6_day_38 : decode cX6_day 38 = .ok (.if_icmp .ge 65, 3) := by decide +kernel
theorem dX6_day_41 : decode cX6_day 41 = .ok (.aload_n 0, 1) := by decide +kernel
theorem dX6_day_42 : decode cX6_day 42 = .ok (.aload_n 0, 1) := by decide +kernel
theorem dX6_day_43 : decode cX6_day 43 = .ok (.getfield 16, 3) := by decide +kernel
theorem dX6_day_46 : decode cX6_day 46 = .ok (.iconst 3, 1) := by decide +kernel
theorem dX6_day_47 : decode cX6_day 47 = .ok (.iload_n 2, 1) := by decide +kernel
theorem dX6_day_48 : decode cX6_day 48 = .ok (.imul, 1) := by decide +kernel
theorem dX6_day_49 : decode cX6_day 49 = .ok (.iconst 1, 1) := by decide +kernel
theorem dX6_day_50 : decode cX6_day 50 = .ok (.iadd, 1) := by decide +kernel
theorem dX6_day_51 : decode cX6_day 51 = .ok (.iaload, 1) := by decide +kernel
theorem dX6_day_52 : decode cX6_day 52 = .ok (.invokevirtual 95, 3) := by decide +kernel
theorem dX6_day_55 : decode cX6_day 55 = .ok (.aload_n 0, 1) := by decide +kernel
theorem dX6_day_56 : decode cX6_day 56 = .ok (.getfield 16, 3) := by decide +kernel
theorem dX6_day_59 : decode cX6_day 59 = .ok (.iconst 3, 1) := by decide +kernel
theorem dX6_day_60 : decode cX6_day 60 = .ok (.iload_n 2, 1) := by decide +kernel
theorem dX6_day_61 : decode cX6_day 61 = .ok (.imul, 1) := by decide +kernel
theorem dX6_day_62 : decode cX6_day 62 = .ok (.iaload, 1) := by decide +kernel
theorem dX6_day_63 : decode cX6_day 63 = .ok (.iconst (-1), 1) := by decide +kernel
theorem dX6_day_64 : decode cX6_day 64 = .ok (.ixor, 1) := by decide +kernel
theorem dX6_day_65 : decode cX6_day 65 = .ok (.iand, 1) := by decide +kernel
theorem dX6_day_66 : decode cX6_day 66 = .ok (.istore_n 3, 1) := by decide +kernel
theorem dX6_day_67 : decode cX6_day 67 = .ok (.aload_n 0, 1) := by decide +kernel
theorem dX6_day_68 : decode cX6_day 68 = .ok (.getfield 16, 3) := by decide +kernel
theorem dX6_day_71 : decode cX6_day 71 = .ok (.iconst 3, 1) := by decide +kernel
theorem dX6_day_72 : decode cX6_day 72 = .ok (.iload_n 2, 1) := by decide +kernel
theorem dX6_day_73 : decode cX6_day 73 = .ok (.imul, 1) := by decide +kernel
theorem dX6_day_74 : decode cX6_day 74 = .ok (.dup2, 1) := by decide +kernel
theorem dX6_day_75 : decode cX6_day 75 = .ok (.iaload, 1) := by decide +kernel
theorem dX6_day_76 : decode cX6_day 76 = .ok (.iload_n 3, 1) := by decide +kernel
theorem dX6_day_77 : decode cX6_day 77 = .ok (.ior, 1) := by decide +kernel
theorem dX6_day_78 : decode cX6_day 78 = .ok (.iastore, 1) := by decide +kernel
theorem dX6_day_79 : decode cX6_day 79 = .ok (.aload_n 0, 1) := by decide +kernel
theorem dX6_day_80 : decode cX6_day 80 = .ok (.getfield 16, 3) := by decide +kernel
theorem dX6_day_83 : decode cX6_day 83 = .ok (.iconst 3, 1) := by decide +kernel
theorem dX6_day_84 : decode cX6_day 84 = .ok (.iload_n 2, 1) := by decide +kernel
theorem dX6_day_85 : decode cX6_day 85 = .ok (.imul, 1) := by decide +kernel
theorem dX6_day_86 : decode cX6_day 86 = .ok (.iconst 1, 1) := by decide +kernel
theorem dX6_day_87 : decode cX6_day 87 = .ok (.iadd, 1) := by decide +kernel
theorem dX6_day_88 : decode cX6_day 88 = .ok (.iload_n 3, 1) := by decide +kernel
theorem dX6_day_89 : decode cX6_day 89 = .ok (.iastore, 1) := by decide +kernel
theorem dX6_day_90 : decode cX6_day 90 = .ok (.iload_n 1, 1) := by decide +kernel
theorem dX6_day_91 : decode cX6_day 91 = .ok (.iload_n 3, 1) := by decide +kernel
theorem dX6_day_92 : decode cX6_day 92 = .ok (.invokestatic 134, 3) := by decide +kernel
theorem dX6_day_95 : decode cX6_day 95 = .ok (.iadd, 1) := by decide +kernel
theorem dX6_day_96 : decode cX6_day 96 = .ok (.istore_n 1, 1) := by decide +kernel
theorem dX6_day_97 : decode cX6_day 97 = .ok (.iinc 2 1, 3) := by decide +kernel
theorem dX6_day_100 : decode cX6_day 100 = .ok (.goto (-64), 3) := by decide +kernel
theorem dX6_day_103 : decode cX6_day 103 = .ok (.iload_n 1, 1) := by decide +kernel
theorem dX6_day_104 : decode cX6_day 104 = .ok (.ireturn, 1) := by decide +kernel
theorem dX6_deny_0 : decode cX6_deny 0 = .ok (.aload_n 0, 1) := by decide +kernel
theorem dX6_deny_1 : decode cX6_deny 1 = .ok (.iload_n 1, 1) := by decide +kernel
theorem dX6_deny_2 : decode cX6_deny 2 = .ok (.invokevirtual 128, 3) := by decide +kernel
theorem dX6_deny_5 : decode cX6_deny 5 = .ok (.ifCond .ne 6, 3) := by decide +kernel
theorem dX6_deny_8 : decode cX6_deny 8 = .ok (.bipush (-101), 2) := by decide +kernel
theorem dX6_deny_10 : decode cX6_deny 10 = .ok (.ireturn, 1) := by decide +kernel
theorem dX6_deny_11 : decode cX6_deny 11 = .ok (.aload_n 0, 1) := by decide +kernel
theorem dX6_deny_12 : decode cX6_deny 12 = .ok (.getfield 16, 3) := by decide +kernel
theorem dX6_deny_15 : decode cX6_deny 15 = .ok (.iconst 3, 1) := by decide +kernel
theorem dX6_deny_16 : decode cX6_deny 16 = .ok (.iload_n 1, 1) := by decide +kernel
theorem dX6_deny_17 : decode cX6_deny 17 = .ok (.imul, 1) := by decide +kernel
theorem dX6_deny_18 : decode cX6_deny 18 = .ok (.iconst 2, 1) := by decide +kernel
theorem dX6_deny_19 : decode cX6_deny 19 = .ok (.iadd, 1) := by decide +kernel
theorem dX6_deny_20 : decode cX6_deny 20 = .ok (.iaload, 1) := by decide +kernel
theorem dX6_deny_21 : decode cX6_deny 21 = .ok (.bipush 9, 2) := by decide +kernel
theorem dX6_deny_23 : decode cX6_deny 23 = .ok (.if_icmp .ne 6, 3) := by decide +kernel
theorem dX6_deny_26 : decode cX6_deny 26 = .ok (.bipush (-104), 2) := by decide +kernel
theorem dX6_deny_28 : decode cX6_deny 28 = .ok (.ireturn, 1) := by decide +kernel
theorem dX6_deny_29 : decode cX6_deny 29 = .ok (.aload_n 0, 1) := by decide +kernel
theorem dX6_deny_30 : decode cX6_deny 30 = .ok (.getfield 16, 3) := by decide +kernel
theorem dX6_deny_33 : decode cX6_deny 33 = .ok (.iconst 3, 1) := by decide +kernel
theorem dX6_deny_34 : decode cX6_deny 34 = .ok (.iload_n 1, 1) := by decide +kernel
theorem dX6_deny_35 : decode cX6_deny 35 = .ok (.imul, 1) := by decide +kernel
theorem dX6_deny_36 : decode cX6_deny 36 = .ok (.iconst 2, 1) := by decide +kernel
theorem dX6_deny_37 : decode cX6_deny 37 = .ok (.iadd, 1) := by decide +kernel
theorem dX6_deny_38 : decode cX6_deny 38 = .ok (.dup2, 1) := by decide +kernel
theorem dX6_deny_39 : decode cX6_deny 39 = .ok (.iaload, 1) := by decide +kernel
theorem dX6_deny_40 : decode cX6_deny 40 = .ok (.iconst 1, 1) := by decide +kernel
theorem dX6_deny_41 : decode cX6_deny 41 = .ok (.iadd, 1) := by decide +kernel
theorem dX6_deny_42 : decode cX6_deny 42 = .ok (.iastore, 1) := by decide +kernel
theorem dX6_deny_43 : decode cX6_deny 43 = .ok (.aload_n 0, 1) := by decide +kernel
theorem dX6_deny_44 : decode cX6_deny 44 = .ok (.iload_n 1, 1) := by decide +kernel
theorem dX6_deny_45 : decode cX6_deny 45 = .ok (.invokevirtual 131, 3) := by decide +kernel
theorem dX6_deny_48 : decode cX6_deny 48 = .ok (.ireturn, 1) := by decide +kernel
theorem dX6_tellTunnel_0 : decode cX6_tellTunnel 0 = .ok (.iload_n 2, 1) := by decide +kernel
theorem dX6_tellTunnel_1 : decode cX6_tellTunnel 1 = .ok (.i2l, 1) := by decide +kernel
theorem dX6_tellTunnel_2 : decode cX6_tellTunnel 2 = .ok (.lconst 1, 1) := by decide +kernel
theorem dX6_tellTunnel_3 : decode cX6_tellTunnel 3 = .ok (.ldc2_w 137, 3) := by decide +kernel
theorem dX6_tellTunnel_6 : decode cX6_tellTunnel 6 = .ok (.invokestatic 40, 3) := by decide +kernel
theorem dX6_tellTunnel_9 : decode cX6_tellTunnel 9 = .ok (.ifCond .eq 16, 3) := by decide +kernel
theorem dX6_tellTunnel_12 : decode cX6_tellTunnel 12 = .ok (.aload_n 0, 1) := by decide +kernel
theorem dX6_tellTunnel_13 : decode cX6_tellTunnel 13 = .ok (.getfield 16, 3) := by decide +kernel
theorem dX6_tellTunnel_16 : decode cX6_tellTunnel 16 = .ok (.iconst 3, 1) := by decide +kernel
theorem dX6_tellTunnel_17 : decode cX6_tellTunnel 17 = .ok (.iload_n 1, 1) := by decide +kernel
theorem dX6_tellTunnel_18 : decode cX6_tellTunnel 18 = .ok (.imul, 1) := by decide +kernel
theorem dX6_tellTunnel_19 : decode cX6_tellTunnel 19 = .ok (.iload_n 2, 1) := by decide +kernel
theorem dX6_tellTunnel_20 : decode cX6_tellTunnel 20 = .ok (.iadd, 1) := by decide +kernel
theorem dX6_tellTunnel_21 : decode cX6_tellTunnel 21 = .ok (.iconst 1, 1) := by decide +kernel
theorem dX6_tellTunnel_22 : decode cX6_tellTunnel 22 = .ok (.isub, 1) := by decide +kernel
theorem dX6_tellTunnel_23 : decode cX6_tellTunnel 23 = .ok (.iaload, 1) := by decide +kernel
theorem dX6_tellTunnel_24 : decode cX6_tellTunnel 24 = .ok (.ireturn, 1) := by decide +kernel
theorem dX6_tellTunnel_25 : decode cX6_tellTunnel 25 = .ok (.iload_n 2, 1) := by decide +kernel
theorem dX6_tellTunnel_26 : decode cX6_tellTunnel 26 = .ok (.iconst 4, 1) := by decide +kernel
theorem dX6_tellTunnel_27 : decode cX6_tellTunnel 27 = .ok (.if_icmp .ne 40, 3) := by decide +kernel
theorem dX6_tellTunnel_30 : decode cX6_tellTunnel 30 = .ok (.aload_n 0, 1) := by decide +kernel
theorem dX6_tellTunnel_31 : decode cX6_tellTunnel 31 = .ok (.aload_n 0, 1) := by decide +kernel
theorem dX6_tellTunnel_32 : decode cX6_tellTunnel 32 = .ok (.aload_n 0, 1) := by decide +kernel
theorem dX6_tellTunnel_33 : decode cX6_tellTunnel 33 = .ok (.getfield 16, 3) := by decide +kernel
theorem dX6_tellTunnel_36 : decode cX6_tellTunnel 36 = .ok (.iconst 3, 1) := by decide +kernel
theorem dX6_tellTunnel_37 : decode cX6_tellTunnel 37 = .ok (.iload_n 1, 1) := by decide +kernel
theorem dX6_tellTunnel_38 : decode cX6_tellTunnel 38 = .ok (.imul, 1) := by decide +kernel
theorem dX6_tellTunnel_39 : decode cX6_tellTunnel 39 = .ok (.iaload, 1) := by decide +kernel
theorem dX6_tellTunnel_40 : decode cX6_tellTunnel 40 = .ok (.aload_n 0, 1) := by decide +kernel
theorem dX6_tellTunnel_41 : decode cX6_tellTunnel 41 = .ok (.getfield 16, 3) := by decide +kernel
theorem dX6_tellTunnel_44 : decode cX6_tellTunnel 44 = .ok (.iconst 3, 1) := by decide +kernel
theorem dX6_tellTunnel_45 : decode cX6_tellTunnel 45 = .ok (.iload_n 1, 1) := by decide +kernel
theorem dX6_tellTunnel_46 : decode cX6_tellTunnel 46 = .ok (.imul, 1) := by decide +kernel
theorem dX6_tellTunnel_47 : decode cX6_tellTunnel 47 = .ok (.iconst 1, 1) := by decide +kernel
theorem dX6_tellTunnel_48 : decode cX6_tellTunnel 48 = .ok (.iadd, 1) := by decide +kernel
theorem dX6_tellTunnel_49 : decode cX6_tellTunnel 49 = .ok (.iaload, 1) := by decide +kernel
theorem dX6_tellTunnel_50 : decode cX6_tellTunnel 50 = .ok (.invokevirtual 101, 3) := by decide +kernel
theorem dX6_tellTunnel_53 : decode cX6_tellTunnel 53 = .ok (.aload_n 0, 1) := by decide +kernel
theorem dX6_tellTunnel_54 : decode cX6_tellTunnel 54 = .ok (.getfield 16, 3) := by decide +kernel
theorem dX6_tellTunnel_57 : decode cX6_tellTunnel 57 = .ok (.iconst 3, 1) := by decide +kernel
theorem dX6_tellTunnel_58 : decode cX6_tellTunnel 58 = .ok (.iload_n 1, 1) := by decide +kernel
theorem dX6_tellTunnel_59 : decode cX6_tellTunnel 59 = .ok (.imul, 1) := by decide +kernel
theorem dX6_tellTunnel_60 : decode cX6_tellTunnel 60 = .ok (.iconst 2, 1) := by decide +kernel
theorem dX6_tellTunnel_61 : decode cX6_tellTunnel 61 = .ok (.iadd, 1) := by decide +kernel
theorem dX6_tellTunnel_62 : decode cX6_tellTunnel 62 = .ok (.iaload, 1) := by decide +kernel
theorem dX6_tellTunnel_63 : decode cX6_tellTunnel 63 = .ok (.invokevirtual 105, 3) := by decide +kernel
theorem dX6_tellTunnel_66 : decode cX6_tellTunnel 66 = .ok (.ireturn, 1) := by decide +kernel
theorem dX6_tellTunnel_67 : decode cX6_tellTunnel 67 = .ok (.iload_n 2, 1) := by decide +kernel
theorem dX6_tellTunnel_68 : decode cX6_tellTunnel 68 = .ok (.ifCond .ne 11, 3) := by decide +kernel
theorem dX6_tellTunnel_71 : decode cX6_tellTunnel 71 = .ok (.aload_n 0, 1) := by decide +kernel
theorem dX6_tellTunnel_72 : decode cX6_tellTunnel 72 = .ok (.iload_n 1, 1) := by decide +kernel
theorem dX6_tellTunnel_73 : decode cX6_tellTunnel 73 = .ok (.invokevirtual 131, 3) := by decide +kernel
theorem dX6_tellTunnel_76 : decode cX6_tellTunnel 76 = .ok (.goto 5, 3) := by decide +kernel
theorem dX6_tellTunnel_79 : decode cX6_tellTunnel 79 = .ok (.bipush (-102), 2) := by decide +kernel
theorem dX6_tellTunnel_81 : decode cX6_tellTunnel 81 = .ok (.ireturn, 1) := by decide +kernel
theorem dX6_tunnel_0 : decode cX6_tunnel 0 = .ok (.aload_n 0, 1) := by decide +kernel
theorem dX6_tunnel_1 : decode cX6_tunnel 1 = .ok (.iload_n 1, 1) := by decide +kernel
theorem dX6_tunnel_2 : decode cX6_tunnel 2 = .ok (.invokevirtual 128, 3) := by decide +kernel
theorem dX6_tunnel_5 : decode cX6_tunnel 5 = .ok (.ifCond .eq 12, 3) := by decide +kernel
theorem dX6_tunnel_8 : decode cX6_tunnel 8 = .ok (.aload_n 0, 1) := by decide +kernel
theorem dX6_tunnel_9 : decode cX6_tunnel 9 = .ok (.iload_n 1, 1) := by decide +kernel
theorem dX6_tunnel_10 : decode cX6_tunnel 10 = .ok (.iload_n 2, 1) := by decide +kernel
theorem dX6_tunnel_11 : decode cX6_tunnel 11 = .ok (.invokevirtual 139, 3) := by decide +kernel
theorem dX6_tunnel_14 : decode cX6_tunnel 14 = .ok (.goto 5, 3) := by decide +kernel
theorem dX6_tunnel_17 : decode cX6_tunnel 17 = .ok (.bipush (-101), 2) := by decide +kernel
theorem dX6_tunnel_19 : decode cX6_tunnel 19 = .ok (.ireturn, 1) := by decide +kernel
theorem dX6_aimOf_0 : decode cX6_aimOf 0 = .ok (.iconst (-1), 1) := by decide +kernel
theorem dX6_aimOf_1 : decode cX6_aimOf 1 = .ok (.istore_n 3, 1) := by decide +kernel
theorem dX6_aimOf_2 : decode cX6_aimOf 2 = .ok (.iconst 1, 1) := by decide +kernel
theorem dX6_aimOf_3 : decode cX6_aimOf 3 = .ok (.istore 4, 2) := by decide +kernel
theorem dX6_aimOf_5 : decode cX6_aimOf 5 = .ok (.iload 4, 2) := by decide +kernel
theorem dX6_aimOf_7 : decode cX6_aimOf 7 = .ok (.iconst 1, 1) := by decide +kernel
theorem dX6_aimOf_8 : decode cX6_aimOf 8 = .ok (.aload_n 0, 1) := by decide +kernel
theorem dX6_aimOf_9 : decode cX6_aimOf 9 = .ok (.getfield 68, 3) := by decide +kernel
theorem dX6_aimOf_12 : decode cX6_aimOf 12 = .ok (.ishl, 1) := by decide +kernel
theorem dX6_aimOf_13 : decode cX6_aimOf 13 = .ok (.if_icmp .ge 55, 3) := by decide +kernel
theorem dX6_aimOf_16 : decode cX6_aimOf 16 = .ok (.iload_n 3, 1) := by decide +kernel
theorem dX6_aimOf_17 : decode cX6_aimOf 17 = .ok (.iconst (-1), 1) := by decide +kernel
theorem dX6_aimOf_18 : decode cX6_aimOf 18 = .ok (.if_icmp .eq 15, 3) := by decide +kernel
theorem dX6_aimOf_21 : decode cX6_aimOf 21 = .ok (.iload 4, 2) := by decide +kernel
theorem dX6_aimOf_23 : decode cX6_aimOf 23 = .ok (.invokestatic 134, 3) := by decide +kernel
theorem dX6_aimOf_26 : decode cX6_aimOf 26 = .ok (.iload_n 3, 1) := by decide +kernel
theorem dX6_aimOf_27 : decode cX6_aimOf 27 = .ok (.invokestatic 134, 3) := by decide +kernel
theorem dX6_aimOf_30 : decode cX6_aimOf 30 = .ok (.if_icmp .ge 7, 3) := by decide +kernel
theorem dX6_aimOf_33 : decode cX6_aimOf 33 = .ok (.iconst 1, 1) := by decide +kernel
theorem dX6_aimOf_34 : decode cX6_aimOf 34 = .ok (.goto 4, 3) := by decide +kernel
theorem dX6_aimOf_37 : decode cX6_aimOf 37 = .ok (.iconst 0, 1) := by decide +kernel
theorem dX6_aimOf_38 : decode cX6_aimOf 38 = .ok (.istore 5, 2) := by decide +kernel
theorem dX6_aimOf_40 : decode cX6_aimOf 40 = .ok (.iload 5, 2) := by decide +kernel
theorem dX6_aimOf_42 : decode cX6_aimOf 42 = .ok (.ifCond .eq 18, 3) := by decide +kernel
theorem dX6_aimOf_45 : decode cX6_aimOf 45 = .ok (.aload_n 0, 1) := by decide +kernel
theorem dX6_aimOf_46 : decode cX6_aimOf 46 = .ok (.iload 4, 2) := by decide +kernel
theorem dX6_aimOf_48 : decode cX6_aimOf 48 = .ok (.invokevirtual 114, 3) := by decide +kernel
theorem dX6_aimOf_51 : decode cX6_aimOf 51 = .ok (.iload_n 1, 1) := by decide +kernel
theorem dX6_aimOf_52 : decode cX6_aimOf 52 = .ok (.if_icmp .ne 8, 3) := by decide +kernel
theorem dX6_aimOf_55 : decode cX6_aimOf 55 = .ok (.iload 4, 2) := by decide +kernel
theorem dX6_aimOf_57 : decode cX6_aimOf 57 = .ok (.goto 4, 3) := by decide +kernel
theorem dX6_aimOf_60 : decode cX6_aimOf 60 = .ok (.iload_n 3, 1) := by decide +kernel
theorem dX6_aimOf_61 : decode cX6_aimOf 61 = .ok (.istore_n 3, 1) := by decide +kernel
theorem dX6_aimOf_62 : decode cX6_aimOf 62 = .ok (.iinc 4 1, 3) := by decide +kernel
theorem dX6_aimOf_65 : decode cX6_aimOf 65 = .ok (.goto (-60), 3) := by decide +kernel
theorem dX6_aimOf_68 : decode cX6_aimOf 68 = .ok (.iload_n 3, 1) := by decide +kernel
theorem dX6_aimOf_69 : decode cX6_aimOf 69 = .ok (.iconst (-1), 1) := by decide +kernel
theorem dX6_aimOf_70 : decode cX6_aimOf 70 = .ok (.if_icmp .eq 8, 3) := by decide +kernel
theorem dX6_aimOf_73 : decode cX6_aimOf 73 = .ok (.iload_n 2, 1) := by decide +kernel
theorem dX6_aimOf_74 : decode cX6_aimOf 74 = .ok (.iconst 1, 1) := by decide +kernel
theorem dX6_aimOf_75 : decode cX6_aimOf 75 = .ok (.if_icmp .ne 7, 3) := by decide +kernel
theorem dX6_aimOf_78 : decode cX6_aimOf 78 = .ok (.iload_n 3, 1) := by decide +kernel
theorem dX6_aimOf_79 : decode cX6_aimOf 79 = .ok (.goto 7, 3) := by decide +kernel
theorem dX6_aimOf_82 : decode cX6_aimOf 82 = .ok (.iload_n 3, 1) := by decide +kernel
theorem dX6_aimOf_83 : decode cX6_aimOf 83 = .ok (.invokestatic 134, 3) := by decide +kernel
theorem dX6_aimOf_86 : decode cX6_aimOf 86 = .ok (.ireturn, 1) := by decide +kernel
theorem dX6_aim_0 : decode cX6_aim 0 = .ok (.iload_n 1, 1) := by decide +kernel
theorem dX6_aim_1 : decode cX6_aim 1 = .ok (.i2l, 1) := by decide +kernel
theorem dX6_aim_2 : decode cX6_aim 2 = .ok (.lconst 1, 1) := by decide +kernel
theorem dX6_aim_3 : decode cX6_aim 3 = .ok (.ldc2_w 142, 3) := by decide +kernel
theorem dX6_aim_6 : decode cX6_aim 6 = .ok (.invokestatic 40, 3) := by decide +kernel
theorem dX6_aim_9 : decode cX6_aim 9 = .ok (.ifCond .eq 13, 3) := by decide +kernel
theorem dX6_aim_12 : decode cX6_aim 12 = .ok (.iload_n 2, 1) := by decide +kernel
theorem dX6_aim_13 : decode cX6_aim 13 = .ok (.i2l, 1) := by decide +kernel
theorem dX6_aim_14 : decode cX6_aim 14 = .ok (.lconst 0, 1) := by decide +kernel
theorem dX6_aim_15 : decode cX6_aim 15 = .ok (.lconst 1, 1) := by decide +kernel
theorem dX6_aim_16 : decode cX6_aim 16 = .ok (.invokestatic 40, 3) := by decide +kernel
theorem dX6_aim_19 : decode cX6_aim 19 = .ok (.ifCond .ne 6, 3) := by decide +kernel
theorem dX6_aim_22 : decode cX6_aim 22 = .ok (.bipush (-102), 2) := by decide +kernel
theorem dX6_aim_24 : decode cX6_aim 24 = .ok (.ireturn, 1) := by decide +kernel
theorem dX6_aim_25 : decode cX6_aim 25 = .ok (.aload_n 0, 1) := by decide +kernel
theorem dX6_aim_26 : decode cX6_aim 26 = .ok (.invokevirtual 86, 3) := by decide +kernel
theorem dX6_aim_29 : decode cX6_aim 29 = .ok (.ifCond .eq 8, 3) := by decide +kernel
theorem dX6_aim_32 : decode cX6_aim 32 = .ok (.bipush (-103), 2) := by decide +kernel
theorem dX6_aim_34 : decode cX6_aim 34 = .ok (.goto 9, 3) := by decide +kernel
theorem dX6_aim_37 : decode cX6_aim 37 = .ok (.aload_n 0, 1) := by decide +kernel
theorem dX6_aim_38 : decode cX6_aim 38 = .ok (.iload_n 1, 1) := by decide +kernel
theorem dX6_aim_39 : decode cX6_aim 39 = .ok (.iload_n 2, 1) := by decide +kernel
theorem dX6_aim_40 : decode cX6_aim 40 = .ok (.invokevirtual 144, 3) := by decide +kernel
theorem dX6_aim_43 : decode cX6_aim 43 = .ok (.ireturn, 1) := by decide +kernel
theorem dX6_heard_0 : decode cX6_heard 0 = .ok (.aload_n 0, 1) := by decide +kernel
theorem dX6_heard_1 : decode cX6_heard 1 = .ok (.iload_n 1, 1) := by decide +kernel
theorem dX6_heard_2 : decode cX6_heard 2 = .ok (.invokevirtual 120, 3) := by decide +kernel
theorem dX6_heard_5 : decode cX6_heard 5 = .ok (.ifCond .ne 6, 3) := by decide +kernel
theorem dX6_heard_8 : decode cX6_heard 8 = .ok (.bipush (-101), 2) := by decide +kernel
theorem dX6_heard_10 : decode cX6_heard 10 = .ok (.ireturn, 1) := by decide +kernel
theorem dX6_heard_11 : decode cX6_heard 11 = .ok (.iload_n 2, 1) := by decide +kernel
theorem dX6_heard_12 : decode cX6_heard 12 = .ok (.i2l, 1) := by decide +kernel
theorem dX6_heard_13 : decode cX6_heard 13 = .ok (.ldc2_w 147, 3) := by decide +kernel
theorem dX6_heard_16 : decode cX6_heard 16 = .ok (.ldc2_w 149, 3) := by decide +kernel
theorem dX6_heard_19 : decode cX6_heard 19 = .ok (.invokestatic 40, 3) := by decide +kernel
theorem dX6_heard_22 : decode cX6_heard 22 = .ok (.ifCond .ne 6, 3) := by decide +kernel
theorem dX6_heard_25 : decode cX6_heard 25 = .ok (.bipush (-102), 2) := by decide +kernel
theorem dX6_heard_27 : decode cX6_heard 27 = .ok (.ireturn, 1) := by decide +kernel
theorem dX6_heard_28 : decode cX6_heard 28 = .ok (.aload_n 0, 1) := by decide +kernel
theorem dX6_heard_29 : decode cX6_heard 29 = .ok (.getfield 80, 3) := by decide +kernel
theorem dX6_heard_32 : decode cX6_heard 32 = .ok (.bipush 8, 2) := by decide +kernel
theorem dX6_heard_34 : decode cX6_heard 34 = .ok (.if_icmp .ne 6, 3) := by decide +kernel
theorem dX6_heard_37 : decode cX6_heard 37 = .ok (.bipush (-104), 2) := by decide +kernel
theorem dX6_heard_39 : decode cX6_heard 39 = .ok (.ireturn, 1) := by decide +kernel
theorem dX6_heard_40 : decode cX6_heard 40 = .ok (.aload_n 0, 1) := by decide +kernel
theorem dX6_heard_41 : decode cX6_heard 41 = .ok (.getfield 19, 3) := by decide +kernel
theorem dX6_heard_44 : decode cX6_heard 44 = .ok (.iconst 2, 1) := by decide +kernel
theorem dX6_heard_45 : decode cX6_heard 45 = .ok (.aload_n 0, 1) := by decide +kernel
theorem dX6_heard_46 : decode cX6_heard 46 = .ok (.getfield 80, 3) := by decide +kernel
theorem dX6_heard_49 : decode cX6_heard 49 = .ok (.imul, 1) := by decide +kernel
theorem dX6_heard_50 : decode cX6_heard 50 = .ok (.iload_n 1, 1) := by decide +kernel
theorem dX6_heard_51 : decode cX6_heard 51 = .ok (.iastore, 1) := by decide +kernel
theorem dX6_heard_52 : decode cX6_heard 52 = .ok (.aload_n 0, 1) := by decide +kernel
theorem dX6_heard_53 : decode cX6_heard 53 = .ok (.getfield 19, 3) := by decide +kernel
theorem dX6_heard_56 : decode cX6_heard 56 = .ok (.iconst 2, 1) := by decide +kernel
theorem dX6_heard_57 : decode cX6_heard 57 = .ok (.aload_n 0, 1) := by decide +kernel
theorem dX6_heard_58 : decode cX6_heard 58 = .ok (.getfield 80, 3) := by decide +kernel
theorem dX6_heard_61 : decode cX6_heard 61 = .ok (.imul, 1) := by decide +kernel
theorem dX6_heard_62 : decode cX6_heard 62 = .ok (.iconst 1, 1) := by decide +kernel
theorem dX6_heard_63 : decode cX6_heard 63 = .ok (.iadd, 1) := by decide +kernel
theorem dX6_heard_64 : decode cX6_heard 64 = .ok (.iload_n 2, 1) := by decide +kernel
theorem dX6_heard_65 : decode cX6_heard 65 = .ok (.iastore, 1) := by decide +kernel
theorem dX6_heard_66 : decode cX6_heard 66 = .ok (.aload_n 0, 1) := by decide +kernel
theorem dX6_heard_67 : decode cX6_heard 67 = .ok (.dup, 1) := by decide +kernel
theorem dX6_heard_68 : decode cX6_heard 68 = .ok (.getfield 80, 3) := by decide +kernel
theorem dX6_heard_71 : decode cX6_heard 71 = .ok (.iconst 1, 1) := by decide +kernel
theorem dX6_heard_72 : decode cX6_heard 72 = .ok (.iadd, 1) := by decide +kernel
theorem dX6_heard_73 : decode cX6_heard 73 = .ok (.putfield 80, 3) := by decide +kernel
theorem dX6_heard_76 : decode cX6_heard 76 = .ok (.aload_n 0, 1) := by decide +kernel
theorem dX6_heard_77 : decode cX6_heard 77 = .ok (.getfield 80, 3) := by decide +kernel
theorem dX6_heard_80 : decode cX6_heard 80 = .ok (.ireturn, 1) := by decide +kernel
theorem dX6_forget_0 : decode cX6_forget 0 = .ok (.aload_n 0, 1) := by decide +kernel
theorem dX6_forget_1 : decode cX6_forget 1 = .ok (.getfield 80, 3) := by decide +kernel
theorem dX6_forget_4 : decode cX6_forget 4 = .ok (.istore_n 1, 1) := by decide +kernel
theorem dX6_forget_5 : decode cX6_forget 5 = .ok (.aload_n 0, 1) := by decide +kernel
theorem dX6_forget_6 : decode cX6_forget 6 = .ok (.iconst 0, 1) := by decide +kernel
theorem dX6_forget_7 : decode cX6_forget 7 = .ok (.putfield 80, 3) := by decide +kernel
theorem dX6_forget_10 : decode cX6_forget 10 = .ok (.iload_n 1, 1) := by decide +kernel
theorem dX6_forget_11 : decode cX6_forget 11 = .ok (.ireturn, 1) := by decide +kernel
theorem dX6_beganOf_0 : decode cX6_beganOf 0 = .ok (.iconst 0, 1) := by decide +kernel
theorem dX6_beganOf_1 : decode cX6_beganOf 1 = .ok (.istore_n 1, 1) := by decide +kernel
theorem dX6_beganOf_2 : decode cX6_beganOf 2 = .ok (.iconst 0, 1) := by decide +kernel
theorem dX6_beganOf_3 : decode cX6_beganOf 3 = .ok (.istore_n 2, 1) := by decide +kernel
theorem dX6_beganOf_4 : decode cX6_beganOf 4 = .ok (.iload_n 2, 1) := by decide +kernel
theorem dX6_beganOf_5 : decode cX6_beganOf 5 = .ok (.aload_n 0, 1) := by decide +kernel
theorem dX6_beganOf_6 : decode cX6_beganOf 6 = .ok (.getfield 68, 3) := by decide +kernel
theorem dX6_beganOf_9 : decode cX6_beganOf 9 = .ok (.if_icmp .ge 81, 3) := by decide +kernel
theorem dX6_beganOf_12 : decode cX6_beganOf 12 = .ok (.iconst 1, 1) := by decide +kernel
theorem dX6_beganOf_13 : decode cX6_beganOf 13 = .ok (.istore_n 3, 1) := by decide +kernel
theorem dX6_beganOf_14 : decode cX6_beganOf 14 = .ok (.iconst 0, 1) := by decide +kernel
theorem dX6_beganOf_15 : decode cX6_beganOf 15 = .ok (.istore 4, 2) := by decide +kernel
theorem dX6_beganOf_17 : decode cX6_beganOf 17 = .ok (.iload 4, 2) := by decide +kernel
theorem dX6_beganOf_19 : decode cX6_beganOf 19 = .ok (.aload_n 0, 1) := by decide +kernel
theorem dX6_beganOf_20 : decode cX6_beganOf 20 = .ok (.getfield 80, 3) := by decide +kernel
theorem dX6_beganOf_23 : decode cX6_beganOf 23 = .ok (.if_icmp .ge 47, 3) := by decide +kernel
theorem dX6_beganOf_26 : decode cX6_beganOf 26 = .ok (.iload_n 3, 1) := by decide +kernel
theorem dX6_beganOf_27 : decode cX6_beganOf 27 = .ok (.ifCond .eq 35, 3) := by decide +kernel
theorem dX6_beganOf_30 : decode cX6_beganOf 30 = .ok (.aload_n 0, 1) := by decide +kernel
theorem dX6_beganOf_31 : decode cX6_beganOf 31 = .ok (.aload_n 0, 1) := by decide +kernel
theorem dX6_beganOf_32 : decode cX6_beganOf 32 = .ok (.getfield 19, 3) := by decide +kernel
theorem dX6_beganOf_35 : decode cX6_beganOf 35 = .ok (.iconst 2, 1) := by decide +kernel
theorem dX6_beganOf_36 : decode cX6_beganOf 36 = .ok (.iload 4, 2) := by decide +kernel
theorem dX6_beganOf_38 : decode cX6_beganOf 38 = .ok (.imul, 1) := by decide +kernel
theorem dX6_beganOf_39 : decode cX6_beganOf 39 = .ok (.iaload, 1) := by decide +kernel
theorem dX6_beganOf_40 : decode cX6_beganOf 40 = .ok (.iload_n 2, 1) := by decide +kernel
theorem dX6_beganOf_41 : decode cX6_beganOf 41 = .ok (.invokevirtual 108, 3) := by decide +kernel
theorem dX6_beganOf_44 : decode cX6_beganOf 44 = .ok (.aload_n 0, 1) := by decide +kernel
theorem dX6_beganOf_45 : decode cX6_beganOf 45 = .ok (.getfield 19, 3) := by decide +kernel
theorem dX6_beganOf_48 : decode cX6_beganOf 48 = .ok (.iconst 2, 1) := by decide +kernel
theorem dX6_beganOf_49 : decode cX6_beganOf 49 = .ok (.iload 4, 2) := by decide +kernel
theorem dX6_beganOf_51 : decode cX6_beganOf 51 = .ok (.imul, 1) := by decide +kernel
theorem dX6_beganOf_52 : decode cX6_beganOf 52 = .ok (.iconst 1, 1) := by decide +kernel
theorem dX6_beganOf_53 : decode cX6_beganOf 53 = .ok (.iadd, 1) := by decide +kernel
theorem dX6_beganOf_54 : decode cX6_beganOf 54 = .ok (.iaload, 1) := by decide +kernel
theorem dX6_beganOf_55 : decode cX6_beganOf 55 = .ok (.if_icmp .ne 7, 3) := by decide +kernel
theorem dX6_beganOf_58 : decode cX6_beganOf 58 = .ok (.iconst 1, 1) := by decide +kernel
theorem dX6_beganOf_59 : decode cX6_beganOf 59 = .ok (.goto 4, 3) := by decide +kernel
theorem dX6_beganOf_62 : decode cX6_beganOf 62 = .ok (.iconst 0, 1) := by decide +kernel
theorem dX6_beganOf_63 : decode cX6_beganOf 63 = .ok (.istore_n 3, 1) := by decide +kernel
theorem dX6_beganOf_64 : decode cX6_beganOf 64 = .ok (.iinc 4 1, 3) := by decide +kernel
theorem dX6_beganOf_67 : decode cX6_beganOf 67 = .ok (.goto (-50), 3) := by decide +kernel
theorem dX6_beganOf_70 : decode cX6_beganOf 70 = .ok (.iload_n 1, 1) := by decide +kernel
theorem dX6_beganOf_71 : decode cX6_beganOf 71 = .ok (.iload_n 3, 1) := by decide +kernel
theorem dX6_beganOf_72 : decode cX6_beganOf 72 = .ok (.ifCond .eq 9, 3) := by decide +kernel
theorem dX6_beganOf_75 : decode cX6_beganOf 75 = .ok (.iconst 1, 1) := by decide +kernel
theorem dX6_beganOf_76 : decode cX6_beganOf 76 = .ok (.iload_n 2, 1) := by decide +kernel
theorem dX6_beganOf_77 : decode cX6_beganOf 77 = .ok (.ishl, 1) := by decide +kernel
theorem dX6_beganOf_78 : decode cX6_beganOf 78 = .ok (.goto 4, 3) := by decide +kernel
theorem dX6_beganOf_81 : decode cX6_beganOf 81 = .ok (.iconst 0, 1) := by decide +kernel
theorem dX6_beganOf_82 : decode cX6_beganOf 82 = .ok (.ior, 1) := by decide +kernel
theorem dX6_beganOf_83 : decode cX6_beganOf 83 = .ok (.istore_n 1, 1) := by decide +kernel
theorem dX6_beganOf_84 : decode cX6_beganOf 84 = .ok (.iinc 2 1, 3) := by decide +kernel
theorem dX6_beganOf_87 : decode cX6_beganOf 87 = .ok (.goto (-83), 3) := by decide +kernel
theorem dX6_beganOf_90 : decode cX6_beganOf 90 = .ok (.iload_n 1, 1) := by decide +kernel
theorem dX6_beganOf_91 : decode cX6_beganOf 91 = .ok (.ireturn, 1) := by decide +kernel
theorem dX6_began_0 : decode cX6_began 0 = .ok (.aload_n 0, 1) := by decide +kernel
theorem dX6_began_1 : decode cX6_began 1 = .ok (.invokevirtual 86, 3) := by decide +kernel
theorem dX6_began_4 : decode cX6_began 4 = .ok (.ifCond .eq 8, 3) := by decide +kernel
theorem dX6_began_7 : decode cX6_began 7 = .ok (.bipush (-103), 2) := by decide +kernel
theorem dX6_began_9 : decode cX6_began 9 = .ok (.goto 7, 3) := by decide +kernel
theorem dX6_began_12 : decode cX6_began 12 = .ok (.aload_n 0, 1) := by decide +kernel
theorem dX6_began_13 : decode cX6_began 13 = .ok (.invokevirtual 151, 3) := by decide +kernel
theorem dX6_began_16 : decode cX6_began 16 = .ok (.ireturn, 1) := by decide +kernel
theorem dX6_askOf_0 : decode cX6_askOf 0 = .ok (.aload_n 0, 1) := by decide +kernel
theorem dX6_askOf_1 : decode cX6_askOf 1 = .ok (.invokevirtual 151, 3) := by decide +kernel
theorem dX6_askOf_4 : decode cX6_askOf 4 = .ok (.istore_n 1, 1) := by decide +kernel
theorem dX6_askOf_5 : decode cX6_askOf 5 = .ok (.iconst (-1), 1) := by decide +kernel
theorem dX6_askOf_6 : decode cX6_askOf 6 = .ok (.istore_n 2, 1) := by decide +kernel
theorem dX6_askOf_7 : decode cX6_askOf 7 = .ok (.bipush 7, 2) := by decide +kernel
theorem dX6_askOf_9 : decode cX6_askOf 9 = .ok (.istore_n 3, 1) := by decide +kernel
theorem dX6_askOf_10 : decode cX6_askOf 10 = .ok (.iconst 0, 1) := by decide +kernel
theorem dX6_askOf_11 : decode cX6_askOf 11 = .ok (.istore 4, 2) := by decide +kernel
theorem dX6_askOf_13 : decode cX6_askOf 13 = .ok (.iload 4, 2) := by decide +kernel
theorem dX6_askOf_15 : decode cX6_askOf 15 = .ok (.aload_n 0, 1) := by decide +kernel
theorem dX6_askOf_16 : decode cX6_askOf 16 = .ok (.getfield 68, 3) := by decide +kernel
theorem dX6_askOf_19 : decode cX6_askOf 19 = .ok (.if_icmp .ge 138, 3) := by decide +kernel
theorem dX6_askOf_22 : decode cX6_askOf 22 = .ok (.iload_n 1, 1) := by decide +kernel
theorem dX6_askOf_23 : decode cX6_askOf 23 = .ok (.ifCond .eq 134, 3) := by decide +kernel
theorem dX6_askOf_26 : decode cX6_askOf 26 = .ok (.iconst 0, 1) := by decide +kernel
theorem dX6_askOf_27 : decode cX6_askOf 27 = .ok (.istore 5, 2) := by decide +kernel
theorem dX6_askOf_29 : decode cX6_askOf 29 = .ok (.iload 5, 2) := by decide +kernel
theorem dX6_askOf_31 : decode cX6_askOf 31 = .ok (.bipush 8, 2) := by decide +kernel
theorem dX6_askOf_33 : decode cX6_askOf 33 = .ok (.if_icmp .ge 17, 3) := by decide +kernel
theorem dX6_askOf_36 : decode cX6_askOf 36 = .ok (.aload_n 0, 1) := by decide +kernel
theorem dX6_askOf_37 : decode cX6_askOf 37 = .ok (.getfield 22, 3) := by decide +kernel
theorem dX6_askOf_40 : decode cX6_askOf 40 = .ok (.iload 5, 2) := by decide +kernel
theorem dX6_askOf_42 : decode cX6_askOf 42 = .ok (.iconst 0, 1) := by decide +kernel
theorem dX6_askOf_43 : decode cX6_askOf 43 = .ok (.iastore, 1) := by decide +kernel
theorem dX6_askOf_44 : decode cX6_askOf 44 = .ok (.iinc 5 1, 3) := by decide +kernel
theorem dX6_askOf_47 : decode cX6_askOf 47 = .ok (.goto (-18), 3) := by decide +kernel
theorem dX6_askOf_50 : decode cX6_askOf 50 = .ok (.iconst 0, 1) := by decide +kernel
theorem dX6_askOf_51 : decode cX6_askOf 51 = .ok (.istore 5, 2) := by decide +kernel
theorem dX6_askOf_53 : decode cX6_askOf 53 = .ok (.iconst 0, 1) := by decide +kernel
theorem dX6_askOf_54 : decode cX6_askOf 54 = .ok (.istore 6, 2) := by decide +kernel
theorem dX6_askOf_56 : decode cX6_askOf 56 = .ok (.iload 6, 2) := by decide +kernel
theorem dX6_askOf_58 : decode cX6_askOf 58 = .ok (.aload_n 0, 1) := by decide +kernel
theorem dX6_askOf_59 : decode cX6_askOf 59 = .ok (.getfield 68, 3) := by decide +kernel
theorem dX6_askOf_62 : decode cX6_askOf 62 = .ok (.if_icmp .ge 63, 3) := by decide +kernel
theorem dX6_askOf_65 : decode cX6_askOf 65 = .ok (.aload_n 0, 1) := by decide +kernel
theorem dX6_askOf_66 : decode cX6_askOf 66 = .ok (.iload 4, 2) := by decide +kernel
theorem dX6_askOf_68 : decode cX6_askOf 68 = .ok (.iload 6, 2) := by decide +kernel
theorem dX6_askOf_70 : decode cX6_askOf 70 = .ok (.invokevirtual 108, 3) := by decide +kernel
theorem dX6_askOf_73 : decode cX6_askOf 73 = .ok (.iconst 1, 1) := by decide +kernel
theorem dX6_askOf_74 : decode cX6_askOf 74 = .ok (.iadd, 1) := by decide +kernel
theorem dX6_askOf_75 : decode cX6_askOf 75 = .ok (.istore 7, 2) := by decide +kernel
theorem dX6_askOf_77 : decode cX6_askOf 77 = .ok (.aload_n 0, 1) := by decide +kernel
theorem dX6_askOf_78 : decode cX6_askOf 78 = .ok (.getfield 22, 3) := by decide +kernel
theorem dX6_askOf_81 : decode cX6_askOf 81 = .ok (.iload 7, 2) := by decide +kernel
theorem dX6_askOf_83 : decode cX6_askOf 83 = .ok (.dup2, 1) := by decide +kernel
theorem dX6_askOf_84 : decode cX6_askOf 84 = .ok (.iaload, 1) := by decide +kernel
theorem dX6_askOf_85 : decode cX6_askOf 85 = .ok (.iload_n 1, 1) := by decide +kernel
theorem dX6_askOf_86 : decode cX6_askOf 86 = .ok (.iload 6, 2) := by decide +kernel
theorem dX6_askOf_88 : decode cX6_askOf 88 = .ok (.ishr, 1) := by decide +kernel
theorem dX6_askOf_89 : decode cX6_askOf 89 = .ok (.iconst 1, 1) := by decide +kernel
theorem dX6_askOf_90 : decode cX6_askOf 90 = .ok (.iand, 1) := by decide +kernel
theorem dX6_askOf_91 : decode cX6_askOf 91 = .ok (.iadd, 1) := by decide +kernel
theorem dX6_askOf_92 : decode cX6_askOf 92 = .ok (.iastore, 1) := by decide +kernel
theorem dX6_askOf_93 : decode cX6_askOf 93 = .ok (.aload_n 0, 1) := by decide +kernel
theorem dX6_askOf_94 : decode cX6_askOf 94 = .ok (.getfield 22, 3) := by decide +kernel
theorem dX6_askOf_97 : decode cX6_askOf 97 = .ok (.iload 7, 2) := by decide +kernel
theorem dX6_askOf_99 : decode cX6_askOf 99 = .ok (.iaload, 1) := by decide +kernel
theorem dX6_askOf_100 : decode cX6_askOf 100 = .ok (.iload 5, 2) := by decide +kernel
theorem dX6_askOf_102 : decode cX6_askOf 102 = .ok (.if_icmp .le 13, 3) := by decide +kernel
theorem dX6_askOf_105 : decode cX6_askOf 105 = .ok (.aload_n 0, 1) := by decide +kernel
theorem dX6_askOf_106 : decode cX6_askOf 106 = .ok (.getfield 22, 3) := by decide +kernel
theorem dX6_askOf_109 : decode cX6_askOf 109 = .ok (.iload 7, 2) := by decide +kernel
theorem dX6_askOf_111 : decode cX6_askOf 111 = .ok (.iaload, 1) := by decide +kernel
theorem dX6_askOf_112 : decode cX6_askOf 112 = .ok (.goto 5, 3) := by decide +kernel
theorem dX6_askOf_115 : decode cX6_askOf 115 = .ok (.iload 5, 2) := by decide +kernel
theorem dX6_askOf_117 : decode cX6_askOf 117 = .ok (.istore 5, 2) := by decide +kernel
theorem dX6_askOf_119 : decode cX6_askOf 119 = .ok (.iinc 6 1, 3) := by decide +kernel
theorem dX6_askOf_122 : decode cX6_askOf 122 = .ok (.goto (-66), 3) := by decide +kernel
theorem dX6_askOf_125 : decode cX6_askOf 125 = .ok (.iload 5, 2) := by decide +kernel
theorem dX6_askOf_127 : decode cX6_askOf 127 = .ok (.iload_n 3, 1) := by decide +kernel
theorem dX6_askOf_128 : decode cX6_askOf 128 = .ok (.if_icmp .ge 8, 3) := by decide +kernel
theorem dX6_askOf_131 : decode cX6_askOf 131 = .ok (.iload 4, 2) := by decide +kernel
theorem dX6_askOf_133 : decode cX6_askOf 133 = .ok (.goto 4, 3) := by decide +kernel
theorem dX6_askOf_136 : decode cX6_askOf 136 = .ok (.iload_n 2, 1) := by decide +kernel
theorem dX6_askOf_137 : decode cX6_askOf 137 = .ok (.istore_n 2, 1) := by decide +kernel
theorem dX6_askOf_138 : decode cX6_askOf 138 = .ok (.iload 5, 2) := by decide +kernel
theorem dX6_askOf_140 : decode cX6_askOf 140 = .ok (.iload_n 3, 1) := by decide +kernel
theorem dX6_askOf_141 : decode cX6_askOf 141 = .ok (.if_icmp .ge 8, 3) := by decide +kernel
theorem dX6_askOf_144 : decode cX6_askOf 144 = .ok (.iload 5, 2) := by decide +kernel
theorem dX6_askOf_146 : decode cX6_askOf 146 = .ok (.goto 4, 3) := by decide +kernel
theorem dX6_askOf_149 : decode cX6_askOf 149 = .ok (.iload_n 3, 1) := by decide +kernel
theorem dX6_askOf_150 : decode cX6_askOf 150 = .ok (.istore_n 3, 1) := by decide +kernel
theorem dX6_askOf_151 : decode cX6_askOf 151 = .ok (.iinc 4 1, 3) := by decide +kernel
theorem dX6_askOf_154 : decode cX6_askOf 154 = .ok (.goto (-141), 3) := by decide +kernel
theorem dX6_askOf_157 : decode cX6_askOf 157 = .ok (.iload_n 2, 1) := by decide +kernel
theorem dX6_askOf_158 : decode cX6_askOf 158 = .ok (.ireturn, 1) := by decide +kernel
theorem dX6_ask_0 : decode cX6_ask 0 = .ok (.aload_n 0, 1) := by decide +kernel
theorem dX6_ask_1 : decode cX6_ask 1 = .ok (.invokevirtual 86, 3) := by decide +kernel
theorem dX6_ask_4 : decode cX6_ask 4 = .ok (.ifCond .eq 8, 3) := by decide +kernel
theorem dX6_ask_7 : decode cX6_ask 7 = .ok (.bipush (-103), 2) := by decide +kernel
theorem dX6_ask_9 : decode cX6_ask 9 = .ok (.goto 7, 3) := by decide +kernel
theorem dX6_ask_12 : decode cX6_ask 12 = .ok (.aload_n 0, 1) := by decide +kernel
theorem dX6_ask_13 : decode cX6_ask 13 = .ok (.invokevirtual 154, 3) := by decide +kernel
theorem dX6_ask_16 : decode cX6_ask 16 = .ok (.ireturn, 1) := by decide +kernel
theorem dX6_draw_0 : decode cX6_draw 0 = .ok (.aload_n 0, 1) := by decide +kernel
theorem dX6_draw_1 : decode cX6_draw 1 = .ok (.ldc2_w 157, 3) := by decide +kernel
theorem dX6_draw_4 : decode cX6_draw 4 = .ok (.aload_n 0, 1) := by decide +kernel
theorem dX6_draw_5 : decode cX6_draw 5 = .ok (.getfield 159, 3) := by decide +kernel
theorem dX6_draw_8 : decode cX6_draw 8 = .ok (.i2l, 1) := by decide +kernel
theorem dX6_draw_9 : decode cX6_draw 9 = .ok (.lmul, 1) := by decide +kernel
theorem dX6_draw_10 : decode cX6_draw 10 = .ok (.ldc2_w 162, 3) := by decide +kernel
theorem dX6_draw_13 : decode cX6_draw 13 = .ok (.ladd, 1) := by decide +kernel
theorem dX6_draw_14 : decode cX6_draw 14 = .ok (.ldc2_w 164, 3) := by decide +kernel
theorem dX6_draw_17 : decode cX6_draw 17 = .ok (.land, 1) := by decide +kernel
theorem dX6_draw_18 : decode cX6_draw 18 = .ok (.l2i, 1) := by decide +kernel
theorem dX6_draw_19 : decode cX6_draw 19 = .ok (.putfield 159, 3) := by decide +kernel
theorem dX6_draw_22 : decode cX6_draw 22 = .ok (.aload_n 0, 1) := by decide +kernel
theorem dX6_draw_23 : decode cX6_draw 23 = .ok (.getfield 159, 3) := by decide +kernel
theorem dX6_draw_26 : decode cX6_draw 26 = .ok (.ldc 166, 2) := by decide +kernel
theorem dX6_draw_28 : decode cX6_draw 28 = .ok (.idiv, 1) := by decide +kernel
theorem dX6_draw_29 : decode cX6_draw 29 = .ok (.iload_n 1, 1) := by decide +kernel
theorem dX6_draw_30 : decode cX6_draw 30 = .ok (.irem, 1) := by decide +kernel
theorem dX6_draw_31 : decode cX6_draw 31 = .ok (.ireturn, 1) := by decide +kernel
theorem dX6_markets_0 : decode cX6_markets 0 = .ok (.iload_n 1, 1) := by decide +kernel
theorem dX6_markets_1 : decode cX6_markets 1 = .ok (.i2l, 1) := by decide +kernel
theorem dX6_markets_2 : decode cX6_markets 2 = .ok (.lconst 1, 1) := by decide +kernel
theorem dX6_markets_3 : decode cX6_markets 3 = .ok (.ldc2_w 167, 3) := by decide +kernel
theorem dX6_markets_6 : decode cX6_markets 6 = .ok (.invokestatic 40, 3) := by decide +kernel
theorem dX6_markets_9 : decode cX6_markets 9 = .ok (.ifCond .eq 19, 3) := by decide +kernel
theorem dX6_markets_12 : decode cX6_markets 12 = .ok (.iload_n 2, 1) := by decide +kernel
theorem dX6_markets_13 : decode cX6_markets 13 = .ok (.ifCond .lt 15, 3) := by decide +kernel
theorem dX6_markets_16 : decode cX6_markets 16 = .ok (.iload_n 3, 1) := by decide +kernel
theorem dX6_markets_17 : decode cX6_markets 17 = .ok (.i2l, 1) := by decide +kernel
theorem dX6_markets_18 : decode cX6_markets 18 = .ok (.lconst 0, 1) := by decide +kernel
theorem dX6_markets_19 : decode cX6_markets 19 = .ok (.ldc2_w 90, 3) := by decide +kernel
theorem dX6_markets_22 : decode cX6_markets 22 = .ok (.invokestatic 40, 3) := by decide +kernel
theorem dX6_markets_25 : decode cX6_markets 25 = .ok (.ifCond .ne 6, 3) := by decide +kernel
theorem dX6_markets_28 : decode cX6_markets 28 = .ok (.bipush (-102), 2) := by decide +kernel
theorem dX6_markets_30 : decode cX6_markets 30 = .ok (.ireturn, 1) := by decide +kernel
theorem dX6_markets_31 : decode cX6_markets 31 = .ok (.aload_n 0, 1) := by decide +kernel
theorem dX6_markets_32 : decode cX6_markets 32 = .ok (.invokevirtual 86, 3) := by decide +kernel
theorem dX6_markets_35 : decode cX6_markets 35 = .ok (.ifCond .eq 6, 3) := by decide +kernel
theorem dX6_markets_38 : decode cX6_markets 38 = .ok (.bipush (-103), 2) := by decide +kernel
theorem dX6_markets_40 : decode cX6_markets 40 = .ok (.ireturn, 1) := by decide +kernel
theorem dX6_markets_41 : decode cX6_markets 41 = .ok (.aload_n 0, 1) := by decide +kernel
theorem dX6_markets_42 : decode cX6_markets 42 = .ok (.iload_n 2, 1) := by decide +kernel
theorem dX6_markets_43 : decode cX6_markets 43 = .ok (.putfield 159, 3) := by decide +kernel
theorem dX6_markets_46 : decode cX6_markets 46 = .ok (.iconst 0, 1) := by decide +kernel
theorem dX6_markets_47 : decode cX6_markets 47 = .ok (.istore 4, 2) := by decide +kernel
theorem dX6_markets_49 : decode cX6_markets 49 = .ok (.iconst 0, 1) := by decide +kernel
theorem dX6_markets_50 : decode cX6_markets 50 = .ok (.istore 5, 2) := by decide +kernel
theorem dX6_markets_52 : decode cX6_markets 52 = .ok (.iconst 0, 1) := by decide +kernel
theorem dX6_markets_53 : decode cX6_markets 53 = .ok (.istore 6, 2) := by decide +kernel
theorem dX6_markets_55 : decode cX6_markets 55 = .ok (.iload 6, 2) := by decide +kernel
theorem dX6_markets_57 : decode cX6_markets 57 = .ok (.iload_n 1, 1) := by decide +kernel
theorem dX6_markets_58 : decode cX6_markets 58 = .ok (.if_icmp .ge 48, 3) := by decide +kernel
theorem dX6_markets_61 : decode cX6_markets 61 = .ok (.aload_n 0, 1) := by decide +kernel
theorem dX6_markets_62 : decode cX6_markets 62 = .ok (.iconst 1, 1) := by decide +kernel
theorem dX6_markets_63 : decode cX6_markets 63 = .ok (.aload_n 0, 1) := by decide +kernel
theorem dX6_markets_64 : decode cX6_markets 64 = .ok (.aload_n 0, 1) := by decide +kernel
theorem dX6_markets_65 : decode cX6_markets 65 = .ok (.getfield 68, 3) := by decide +kernel
theorem dX6_markets_68 : decode cX6_markets 68 = .ok (.invokevirtual 169, 3) := by decide +kernel
theorem dX6_markets_71 : decode cX6_markets 71 = .ok (.ishl, 1) := by decide +kernel
theorem dX6_markets_72 : decode cX6_markets 72 = .ok (.invokevirtual 114, 3) := by decide +kernel
theorem dX6_markets_75 : decode cX6_markets 75 = .ok (.istore 7, 2) := by decide +kernel
theorem dX6_markets_77 : decode cX6_markets 77 = .ok (.iload 4, 2) := by decide +kernel
theorem dX6_markets_79 : decode cX6_markets 79 = .ok (.iload 7, 2) := by decide +kernel
theorem dX6_markets_81 : decode cX6_markets 81 = .ok (.iadd, 1) := by decide +kernel
theorem dX6_markets_82 : decode cX6_markets 82 = .ok (.istore 4, 2) := by decide +kernel
theorem dX6_markets_84 : decode cX6_markets 84 = .ok (.iload 7, 2) := by decide +kernel
theorem dX6_markets_86 : decode cX6_markets 86 = .ok (.iload 5, 2) := by decide +kernel
theorem dX6_markets_88 : decode cX6_markets 88 = .ok (.if_icmp .le 8, 3) := by decide +kernel
theorem dX6_markets_91 : decode cX6_markets 91 = .ok (.iload 7, 2) := by decide +kernel
theorem dX6_markets_93 : decode cX6_markets 93 = .ok (.goto 5, 3) := by decide +kernel
theorem dX6_markets_96 : decode cX6_markets 96 = .ok (.iload 5, 2) := by decide +kernel
theorem dX6_markets_98 : decode cX6_markets 98 = .ok (.istore 5, 2) := by decide +kernel
theorem dX6_markets_100 : decode cX6_markets 100 = .ok (.iinc 6 1, 3) := by decide +kernel
theorem dX6_markets_103 : decode cX6_markets 103 = .ok (.goto (-48), 3) := by decide +kernel
theorem dX6_markets_106 : decode cX6_markets 106 = .ok (.iload_n 3, 1) := by decide +kernel
theorem dX6_markets_107 : decode cX6_markets 107 = .ok (.ifCond .ne 8, 3) := by decide +kernel
theorem dX6_markets_110 : decode cX6_markets 110 = .ok (.iload 4, 2) := by decide +kernel
theorem dX6_markets_112 : decode cX6_markets 112 = .ok (.goto 17, 3) := by decide +kernel
theorem dX6_markets_115 : decode cX6_markets 115 = .ok (.iload_n 3, 1) := by decide +kernel
theorem dX6_markets_116 : decode cX6_markets 116 = .ok (.iconst 1, 1) := by decide +kernel
theorem dX6_markets_117 : decode cX6_markets 117 = .ok (.if_icmp .ne 8, 3) := by decide +kernel
theorem dX6_markets_120 : decode cX6_markets 120 = .ok (.iload 5, 2) := by decide +kernel
theorem dX6_markets_122 : decode cX6_markets 122 = .ok (.goto 7, 3) := by decide +kernel
theorem dX6_markets_125 : decode cX6_markets 125 = .ok (.aload_n 0, 1) := by decide +kernel
theorem dX6_markets_126 : decode cX6_markets 126 = .ok (.getfield 159, 3) := by decide +kernel
theorem dX6_markets_129 : decode cX6_markets 129 = .ok (.ireturn, 1) := by decide +kernel
theorem dX6_image_0 : decode cX6_image 0 = .ok (.aload_n 0, 1) := by decide +kernel
theorem dX6_image_1 : decode cX6_image 1 = .ok (.invokevirtual 86, 3) := by decide +kernel
theorem dX6_image_4 : decode cX6_image 4 = .ok (.ifCond .eq 6, 3) := by decide +kernel
theorem dX6_image_7 : decode cX6_image 7 = .ok (.bipush (-103), 2) := by decide +kernel
theorem dX6_image_9 : decode cX6_image 9 = .ok (.ireturn, 1) := by decide +kernel
theorem dX6_image_10 : decode cX6_image 10 = .ok (.aload_n 0, 1) := by decide +kernel
theorem dX6_image_11 : decode cX6_image 11 = .ok (.getfield 13, 3) := by decide +kernel
theorem dX6_image_14 : decode cX6_image 14 = .ok (.aload_n 0, 1) := by decide +kernel
theorem dX6_image_15 : decode cX6_image 15 = .ok (.getfield 25, 3) := by decide +kernel
theorem dX6_image_18 : decode cX6_image 18 = .ok (.invokestatic 172, 3) := by decide +kernel
theorem dX6_image_21 : decode cX6_image 21 = .ok (.aload_n 0, 1) := by decide +kernel
theorem dX6_image_22 : decode cX6_image 22 = .ok (.getfield 16, 3) := by decide +kernel
theorem dX6_image_25 : decode cX6_image 25 = .ok (.aload_n 0, 1) := by decide +kernel
theorem dX6_image_26 : decode cX6_image 26 = .ok (.getfield 28, 3) := by decide +kernel
theorem dX6_image_29 : decode cX6_image 29 = .ok (.invokestatic 172, 3) := by decide +kernel
theorem dX6_image_32 : decode cX6_image 32 = .ok (.aload_n 0, 1) := by decide +kernel
theorem dX6_image_33 : decode cX6_image 33 = .ok (.getfield 19, 3) := by decide +kernel
theorem dX6_image_36 : decode cX6_image 36 = .ok (.aload_n 0, 1) := by decide +kernel
theorem dX6_image_37 : decode cX6_image 37 = .ok (.getfield 31, 3) := by decide +kernel
theorem dX6_image_40 : decode cX6_image 40 = .ok (.invokestatic 172, 3) := by decide +kernel
theorem dX6_image_43 : decode cX6_image 43 = .ok (.aload_n 0, 1) := by decide +kernel
theorem dX6_image_44 : decode cX6_image 44 = .ok (.aload_n 0, 1) := by decide +kernel
theorem dX6_image_45 : decode cX6_image 45 = .ok (.getfield 74, 3) := by decide +kernel
theorem dX6_image_48 : decode cX6_image 48 = .ok (.putfield 176, 3) := by decide +kernel
theorem dX6_image_51 : decode cX6_image 51 = .ok (.aload_n 0, 1) := by decide +kernel
theorem dX6_image_52 : decode cX6_image 52 = .ok (.aload_n 0, 1) := by decide +kernel
theorem dX6_image_53 : decode cX6_image 53 = .ok (.getfield 77, 3) := by decide +kernel
theorem dX6_image_56 : decode cX6_image 56 = .ok (.putfield 179, 3) := by decide +kernel
theorem dX6_image_59 : decode cX6_image 59 = .ok (.aload_n 0, 1) := by decide +kernel
theorem dX6_image_60 : decode cX6_image 60 = .ok (.aload_n 0, 1) := by decide +kernel
theorem dX6_image_61 : decode cX6_image 61 = .ok (.getfield 80, 3) := by decide +kernel
theorem dX6_image_64 : decode cX6_image 64 = .ok (.putfield 182, 3) := by decide +kernel
theorem dX6_image_67 : decode cX6_image 67 = .ok (.aload_n 0, 1) := by decide +kernel
theorem dX6_image_68 : decode cX6_image 68 = .ok (.aload_n 0, 1) := by decide +kernel
theorem dX6_image_69 : decode cX6_image 69 = .ok (.getfield 83, 3) := by decide +kernel
theorem dX6_image_72 : decode cX6_image 72 = .ok (.putfield 34, 3) := by decide +kernel
theorem dX6_image_75 : decode cX6_image 75 = .ok (.aload_n 0, 1) := by decide +kernel
theorem dX6_image_76 : decode cX6_image 76 = .ok (.getfield 74, 3) := by decide +kernel
theorem dX6_image_79 : decode cX6_image 79 = .ok (.ireturn, 1) := by decide +kernel
theorem dX6_restore_0 : decode cX6_restore 0 = .ok (.aload_n 0, 1) := by decide +kernel
theorem dX6_restore_1 : decode cX6_restore 1 = .ok (.getfield 34, 3) := by decide +kernel
theorem dX6_restore_4 : decode cX6_restore 4 = .ok (.aload_n 0, 1) := by decide +kernel
theorem dX6_restore_5 : decode cX6_restore 5 = .ok (.getfield 83, 3) := by decide +kernel
theorem dX6_restore_8 : decode cX6_restore 8 = .ok (.if_icmp .eq 6, 3) := by decide +kernel
theorem dX6_restore_11 : decode cX6_restore 11 = .ok (.bipush (-103), 2) := by decide +kernel
theorem dX6_restore_13 : decode cX6_restore 13 = .ok (.ireturn, 1) := by decide +kernel
theorem dX6_restore_14 : decode cX6_restore 14 = .ok (.aload_n 0, 1) := by decide +kernel
theorem dX6_restore_15 : decode cX6_restore 15 = .ok (.getfield 25, 3) := by decide +kernel
theorem dX6_restore_18 : decode cX6_restore 18 = .ok (.aload_n 0, 1) := by decide +kernel
theorem dX6_restore_19 : decode cX6_restore 19 = .ok (.getfield 13, 3) := by decide +kernel
theorem dX6_restore_22 : decode cX6_restore 22 = .ok (.invokestatic 172, 3) := by decide +kernel
theorem dX6_restore_25 : decode cX6_restore 25 = .ok (.aload_n 0, 1) := by decide +kernel
theorem dX6_restore_26 : decode cX6_restore 26 = .ok (.getfield 28, 3) := by decide +kernel
theorem dX6_restore_29 : decode cX6_restore 29 = .ok (.aload_n 0, 1) := by decide +kernel
theorem dX6_restore_30 : decode cX6_restore 30 = .ok (.getfield 16, 3) := by decide +kernel
theorem dX6_restore_33 : decode cX6_restore 33 = .ok (.invokestatic 172, 3) := by decide +kernel
theorem dX6_restore_36 : decode cX6_restore 36 = .ok (.aload_n 0, 1) := by decide +kernel
theorem dX6_restore_37 : decode cX6_restore 37 = .ok (.getfield 31, 3) := by decide +kernel
theorem dX6_restore_40 : decode cX6_restore 40 = .ok (.aload_n 0, 1) := by decide +kernel
theorem dX6_restore_41 : decode cX6_restore 41 = .ok (.getfield 19, 3) := by decide +kernel
theorem dX6_restore_44 : decode cX6_restore 44 = .ok (.invokestatic 172, 3) := by decide +kernel
theorem dX6_restore_47 : decode cX6_restore 47 = .ok (.aload_n 0, 1) := by decide +kernel
theorem dX6_restore_48 : decode cX6_restore 48 = .ok (.aload_n 0, 1) := by decide +kernel
theorem dX6_restore_49 : decode cX6_restore 49 = .ok (.getfield 176, 3) := by decide +kernel
theorem dX6_restore_52 : decode cX6_restore 52 = .ok (.putfield 74, 3) := by decide +kernel
theorem dX6_restore_55 : decode cX6_restore 55 = .ok (.aload_n 0, 1) := by decide +kernel
theorem dX6_restore_56 : decode cX6_restore 56 = .ok (.aload_n 0, 1) := by decide +kernel
theorem dX6_restore_57 : decode cX6_restore 57 = .ok (.getfield 179, 3) := by decide +kernel
theorem dX6_restore_60 : decode cX6_restore 60 = .ok (.putfield 77, 3) := by decide +kernel
theorem dX6_restore_63 : decode cX6_restore 63 = .ok (.aload_n 0, 1) := by decide +kernel
theorem dX6_restore_64 : decode cX6_restore 64 = .ok (.aload_n 0, 1) := by decide +kernel
theorem dX6_restore_65 : decode cX6_restore 65 = .ok (.getfield 182, 3) := by decide +kernel
theorem dX6_restore_68 : decode cX6_restore 68 = .ok (.putfield 80, 3) := by decide +kernel
theorem dX6_restore_71 : decode cX6_restore 71 = .ok (.aload_n 0, 1) := by decide +kernel
theorem dX6_restore_72 : decode cX6_restore 72 = .ok (.getfield 74, 3) := by decide +kernel
theorem dX6_restore_75 : decode cX6_restore 75 = .ok (.ireturn, 1) := by decide +kernel
theorem dX6_lengthAll_0 : decode cX6_lengthAll 0 = .ok (.iconst 0, 1) := by decide +kernel
theorem dX6_lengthAll_1 : decode cX6_lengthAll 1 = .ok (.istore_n 1, 1) := by decide +kernel
theorem dX6_lengthAll_2 : decode cX6_lengthAll 2 = .ok (.iconst 0, 1) := by decide +kernel
theorem dX6_lengthAll_3 : decode cX6_lengthAll 3 = .ok (.istore_n 2, 1) := by decide +kernel
theorem dX6_lengthAll_4 : decode cX6_lengthAll 4 = .ok (.iload_n 2, 1) := by decide +kernel
theorem dX6_lengthAll_5 : decode cX6_lengthAll 5 = .ok (.iconst 3, 1) := by decide +kernel
theorem dX6_lengthAll_6 : decode cX6_lengthAll 6 = .ok (.if_icmp .ge 24, 3) := by decide +kernel
theorem dX6_lengthAll_9 : decode cX6_lengthAll 9 = .ok (.aload_n 0, 1) := by decide +kernel
theorem dX6_lengthAll_10 : decode cX6_lengthAll 10 = .ok (.invokevirtual 86, 3) := by decide +kernel
theorem dX6_lengthAll_13 : decode cX6_lengthAll 13 = .ok (.ifCond .ne 17, 3) := by decide +kernel
theorem dX6_lengthAll_16 : decode cX6_lengthAll 16 = .ok (.iload_n 1, 1) := by decide +kernel
theorem dX6_lengthAll_17 : decode cX6_lengthAll 17 = .ok (.aload_n 0, 1) := by decide +kernel
theorem dX6_lengthAll_18 : decode cX6_lengthAll 18 = .ok (.iload_n 2, 1) := by decide +kernel
theorem dX6_lengthAll_19 : decode cX6_lengthAll 19 = .ok (.invokevirtual 131, 3) := by decide +kernel
theorem dX6_lengthAll_22 : decode cX6_lengthAll 22 = .ok (.iadd, 1) := by decide +kernel
theorem dX6_lengthAll_23 : decode cX6_lengthAll 23 = .ok (.istore_n 1, 1) := by decide +kernel
theorem dX6_lengthAll_24 : decode cX6_lengthAll 24 = .ok (.iinc 2 1, 3) := by decide +kernel
theorem dX6_lengthAll_27 : decode cX6_lengthAll 27 = .ok (.goto (-23), 3) := by decide +kernel
theorem dX6_lengthAll_30 : decode cX6_lengthAll 30 = .ok (.iload_n 1, 1) := by decide +kernel
theorem dX6_lengthAll_31 : decode cX6_lengthAll 31 = .ok (.ireturn, 1) := by decide +kernel
theorem dX6_heardAll_0 : decode cX6_heardAll 0 = .ok (.aload_n 0, 1) := by decide +kernel
theorem dX6_heardAll_1 : decode cX6_heardAll 1 = .ok (.getfield 16, 3) := by decide +kernel
theorem dX6_heardAll_4 : decode cX6_heardAll 4 = .ok (.iconst 0, 1) := by decide +kernel
theorem dX6_heardAll_5 : decode cX6_heardAll 5 = .ok (.iaload, 1) := by decide +kernel
theorem dX6_heardAll_6 : decode cX6_heardAll 6 = .ok (.invokestatic 134, 3) := by decide +kernel
theorem dX6_heardAll_9 : decode cX6_heardAll 9 = .ok (.aload_n 0, 1) := by decide +kernel
theorem dX6_heardAll_10 : decode cX6_heardAll 10 = .ok (.getfield 16, 3) := by decide +kernel
theorem dX6_heardAll_13 : decode cX6_heardAll 13 = .ok (.iconst 3, 1) := by decide +kernel
theorem dX6_heardAll_14 : decode cX6_heardAll 14 = .ok (.iaload, 1) := by decide +kernel
theorem dX6_heardAll_15 : decode cX6_heardAll 15 = .ok (.invokestatic 134, 3) := by decide +kernel
theorem dX6_heardAll_18 : decode cX6_heardAll 18 = .ok (.iadd, 1) := by decide +kernel
theorem dX6_heardAll_19 : decode cX6_heardAll 19 = .ok (.aload_n 0, 1) := by decide +kernel
theorem dX6_heardAll_20 : decode cX6_heardAll 20 = .ok (.getfield 16, 3) := by decide +kernel
theorem dX6_heardAll_23 : decode cX6_heardAll 23 = .ok (.bipush 6, 2) := by decide +kernel
theorem dX6_heardAll_25 : decode cX6_heardAll 25 = .ok (.iaload, 1) := by decide +kernel
theorem dX6_heardAll_26 : decode cX6_heardAll 26 = .ok (.invokestatic 134, 3) := by decide +kernel
theorem dX6_heardAll_29 : decode cX6_heardAll 29 = .ok (.iadd, 1) := by decide +kernel
theorem dX6_heardAll_30 : decode cX6_heardAll 30 = .ok (.ireturn, 1) := by decide +kernel
theorem dX6_countOf_0 : decode cX6_countOf 0 = .ok (.iload_n 1, 1) := by decide +kernel
theorem dX6_countOf_1 : decode cX6_countOf 1 = .ok (.tableswitch 96 0 8 #[51, 56, 61, 66, 71, 76, 81, 86, 91], 51) := by decide +kernel
theorem dX6_countOf_52 : decode cX6_countOf 52 = .ok (.aload_n 0, 1) := by decide +kernel
theorem dX6_countOf_53 : decode cX6_countOf 53 = .ok (.getfield 68, 3) := by decide +kernel
theorem dX6_countOf_56 : decode cX6_countOf 56 = .ok (.ireturn, 1) := by decide +kernel
theorem dX6_countOf_57 : decode cX6_countOf 57 = .ok (.aload_n 0, 1) := by decide +kernel
theorem dX6_countOf_58 : decode cX6_countOf 58 = .ok (.getfield 71, 3) := by decide +kernel
theorem dX6_countOf_61 : decode cX6_countOf 61 = .ok (.ireturn, 1) := by decide +kernel
theorem dX6_countOf_62 : decode cX6_countOf 62 = .ok (.aload_n 0, 1) := by decide +kernel
theorem dX6_countOf_63 : decode cX6_countOf 63 = .ok (.getfield 74, 3) := by decide +kernel
theorem dX6_countOf_66 : decode cX6_countOf 66 = .ok (.ireturn, 1) := by decide +kernel
theorem dX6_countOf_67 : decode cX6_countOf 67 = .ok (.aload_n 0, 1) := by decide +kernel
theorem dX6_countOf_68 : decode cX6_countOf 68 = .ok (.invokevirtual 185, 3) := by decide +kernel
theorem dX6_countOf_71 : decode cX6_countOf 71 = .ok (.ireturn, 1) := by decide +kernel
theorem dX6_countOf_72 : decode cX6_countOf 72 = .ok (.aload_n 0, 1) := by decide +kernel
theorem dX6_countOf_73 : decode cX6_countOf 73 = .ok (.invokevirtual 188, 3) := by decide +kernel
theorem dX6_countOf_76 : decode cX6_countOf 76 = .ok (.ireturn, 1) := by decide +kernel
theorem dX6_countOf_77 : decode cX6_countOf 77 = .ok (.aload_n 0, 1) := by decide +kernel
theorem dX6_countOf_78 : decode cX6_countOf 78 = .ok (.getfield 77, 3) := by decide +kernel
theorem dX6_countOf_81 : decode cX6_countOf 81 = .ok (.ireturn, 1) := by decide +kernel
theorem dX6_countOf_82 : decode cX6_countOf 82 = .ok (.aload_n 0, 1) := by decide +kernel
theorem dX6_countOf_83 : decode cX6_countOf 83 = .ok (.getfield 80, 3) := by decide +kernel
theorem dX6_countOf_86 : decode cX6_countOf 86 = .ok (.ireturn, 1) := by decide +kernel
theorem dX6_countOf_87 : decode cX6_countOf 87 = .ok (.aload_n 0, 1) := by decide +kernel
theorem dX6_countOf_88 : decode cX6_countOf 88 = .ok (.getfield 44, 3) := by decide +kernel
theorem dX6_countOf_91 : decode cX6_countOf 91 = .ok (.ireturn, 1) := by decide +kernel
theorem dX6_countOf_92 : decode cX6_countOf 92 = .ok (.aload_n 0, 1) := by decide +kernel
theorem dX6_countOf_93 : decode cX6_countOf 93 = .ok (.getfield 83, 3) := by decide +kernel
theorem dX6_countOf_96 : decode cX6_countOf 96 = .ok (.ireturn, 1) := by decide +kernel
theorem dX6_countOf_97 : decode cX6_countOf 97 = .ok (.bipush (-102), 2) := by decide +kernel
theorem dX6_countOf_99 : decode cX6_countOf 99 = .ok (.ireturn, 1) := by decide +kernel
theorem dX6_count_0 : decode cX6_count 0 = .ok (.aload_n 0, 1) := by decide +kernel
theorem dX6_count_1 : decode cX6_count 1 = .ok (.iload_n 1, 1) := by decide +kernel
theorem dX6_count_2 : decode cX6_count 2 = .ok (.invokevirtual 191, 3) := by decide +kernel
theorem dX6_count_5 : decode cX6_count 5 = .ok (.ireturn, 1) := by decide +kernel
theorem dX6_say_0 : decode cX6_say 0 = .ok (.aload_n 0, 1) := by decide +kernel
theorem dX6_say_1 : decode cX6_say 1 = .ok (.ldc2_w 194, 3) := by decide +kernel
theorem dX6_say_4 : decode cX6_say 4 = .ok (.aload_n 0, 1) := by decide +kernel
theorem dX6_say_5 : decode cX6_say 5 = .ok (.getfield 196, 3) := by decide +kernel
theorem dX6_say_8 : decode cX6_say 8 = .ok (.lmul, 1) := by decide +kernel
theorem dX6_say_9 : decode cX6_say 9 = .ok (.lload_n 1, 1) := by decide +kernel
theorem dX6_say_10 : decode cX6_say 10 = .ok (.ladd, 1) := by decide +kernel
theorem dX6_say_11 : decode cX6_say 11 = .ok (.putfield 196, 3) := by decide +kernel
theorem dX6_say_14 : decode cX6_say 14 = .ok (.return_, 1) := by decide +kernel
theorem dX6_sayHill_0 : decode cX6_sayHill 0 = .ok (.iconst 0, 1) := by decide +kernel
theorem dX6_sayHill_1 : decode cX6_sayHill 1 = .ok (.istore_n 1, 1) := by decide +kernel
theorem dX6_sayHill_2 : decode cX6_sayHill 2 = .ok (.iload_n 1, 1) := by decide +kernel
theorem dX6_sayHill_3 : decode cX6_sayHill 3 = .ok (.iconst 3, 1) := by decide +kernel
theorem dX6_sayHill_4 : decode cX6_sayHill 4 = .ok (.if_icmp .ge 33, 3) := by decide +kernel
theorem dX6_sayHill_7 : decode cX6_sayHill 7 = .ok (.iconst 0, 1) := by decide +kernel
theorem dX6_sayHill_8 : decode cX6_sayHill 8 = .ok (.istore_n 2, 1) := by decide +kernel
theorem dX6_sayHill_9 : decode cX6_sayHill 9 = .ok (.iload_n 2, 1) := by decide +kernel
theorem dX6_sayHill_10 : decode cX6_sayHill 10 = .ok (.iconst 5, 1) := by decide +kernel
theorem dX6_sayHill_11 : decode cX6_sayHill 11 = .ok (.if_icmp .ge 20, 3) := by decide +kernel
theorem dX6_sayHill_14 : decode cX6_sayHill 14 = .ok (.aload_n 0, 1) := by decide +kernel
theorem dX6_sayHill_15 : decode cX6_sayHill 15 = .ok (.aload_n 0, 1) := by decide +kernel
theorem dX6_sayHill_16 : decode cX6_sayHill 16 = .ok (.iload_n 1, 1) := by decide +kernel
theorem dX6_sayHill_17 : decode cX6_sayHill 17 = .ok (.iload_n 2, 1) := by decide +kernel
theorem dX6_sayHill_18 : decode cX6_sayHill 18 = .ok (.invokevirtual 139, 3) := by decide +kernel
theorem dX6_sayHill_21 : decode cX6_sayHill 21 = .ok (.i2l, 1) := by decide +kernel
theorem dX6_sayHill_22 : decode cX6_sayHill 22 = .ok (.invokevirtual 200, 3) := by decide +kernel
theorem dX6_sayHill_25 : decode cX6_sayHill 25 = .ok (.iinc 2 1, 3) := by decide +kernel
theorem dX6_sayHill_28 : decode cX6_sayHill 28 = .ok (.goto (-19), 3) := by decide +kernel
theorem dX6_sayHill_31 : decode cX6_sayHill 31 = .ok (.iinc 1 1, 3) := by decide +kernel
theorem dX6_sayHill_34 : decode cX6_sayHill 34 = .ok (.goto (-32), 3) := by decide +kernel
theorem dX6_sayHill_37 : decode cX6_sayHill 37 = .ok (.aload_n 0, 1) := by decide +kernel
theorem dX6_sayHill_38 : decode cX6_sayHill 38 = .ok (.aload_n 0, 1) := by decide +kernel
theorem dX6_sayHill_39 : decode cX6_sayHill 39 = .ok (.iconst 3, 1) := by decide +kernel
theorem dX6_sayHill_40 : decode cX6_sayHill 40 = .ok (.iconst 0, 1) := by decide +kernel
theorem dX6_sayHill_41 : decode cX6_sayHill 41 = .ok (.invokevirtual 144, 3) := by decide +kernel
theorem dX6_sayHill_44 : decode cX6_sayHill 44 = .ok (.i2l, 1) := by decide +kernel
theorem dX6_sayHill_45 : decode cX6_sayHill 45 = .ok (.invokevirtual 200, 3) := by decide +kernel
theorem dX6_sayHill_48 : decode cX6_sayHill 48 = .ok (.aload_n 0, 1) := by decide +kernel
theorem dX6_sayHill_49 : decode cX6_sayHill 49 = .ok (.aload_n 0, 1) := by decide +kernel
theorem dX6_sayHill_50 : decode cX6_sayHill 50 = .ok (.iconst 3, 1) := by decide +kernel
theorem dX6_sayHill_51 : decode cX6_sayHill 51 = .ok (.iconst 1, 1) := by decide +kernel
theorem dX6_sayHill_52 : decode cX6_sayHill 52 = .ok (.invokevirtual 144, 3) := by decide +kernel
theorem dX6_sayHill_55 : decode cX6_sayHill 55 = .ok (.i2l, 1) := by decide +kernel
theorem dX6_sayHill_56 : decode cX6_sayHill 56 = .ok (.invokevirtual 200, 3) := by decide +kernel
theorem dX6_sayHill_59 : decode cX6_sayHill 59 = .ok (.aload_n 0, 1) := by decide +kernel
theorem dX6_sayHill_60 : decode cX6_sayHill 60 = .ok (.aload_n 0, 1) := by decide +kernel
theorem dX6_sayHill_61 : decode cX6_sayHill 61 = .ok (.bipush 7, 2) := by decide +kernel
theorem dX6_sayHill_63 : decode cX6_sayHill 63 = .ok (.iconst 0, 1) := by decide +kernel
theorem dX6_sayHill_64 : decode cX6_sayHill 64 = .ok (.invokevirtual 144, 3) := by decide +kernel
theorem dX6_sayHill_67 : decode cX6_sayHill 67 = .ok (.i2l, 1) := by decide +kernel
theorem dX6_sayHill_68 : decode cX6_sayHill 68 = .ok (.invokevirtual 200, 3) := by decide +kernel
theorem dX6_sayHill_71 : decode cX6_sayHill 71 = .ok (.aload_n 0, 1) := by decide +kernel
theorem dX6_sayHill_72 : decode cX6_sayHill 72 = .ok (.aload_n 0, 1) := by decide +kernel
theorem dX6_sayHill_73 : decode cX6_sayHill 73 = .ok (.bipush 7, 2) := by decide +kernel
theorem dX6_sayHill_75 : decode cX6_sayHill 75 = .ok (.iconst 1, 1) := by decide +kernel
theorem dX6_sayHill_76 : decode cX6_sayHill 76 = .ok (.invokevirtual 144, 3) := by decide +kernel
theorem dX6_sayHill_79 : decode cX6_sayHill 79 = .ok (.i2l, 1) := by decide +kernel
theorem dX6_sayHill_80 : decode cX6_sayHill 80 = .ok (.invokevirtual 200, 3) := by decide +kernel
theorem dX6_sayHill_83 : decode cX6_sayHill 83 = .ok (.aload_n 0, 1) := by decide +kernel
theorem dX6_sayHill_84 : decode cX6_sayHill 84 = .ok (.aload_n 0, 1) := by decide +kernel
theorem dX6_sayHill_85 : decode cX6_sayHill 85 = .ok (.invokevirtual 151, 3) := by decide +kernel
theorem dX6_sayHill_88 : decode cX6_sayHill 88 = .ok (.i2l, 1) := by decide +kernel
theorem dX6_sayHill_89 : decode cX6_sayHill 89 = .ok (.invokevirtual 200, 3) := by decide +kernel
theorem dX6_sayHill_92 : decode cX6_sayHill 92 = .ok (.aload_n 0, 1) := by decide +kernel
theorem dX6_sayHill_93 : decode cX6_sayHill 93 = .ok (.aload_n 0, 1) := by decide +kernel
theorem dX6_sayHill_94 : decode cX6_sayHill 94 = .ok (.invokevirtual 154, 3) := by decide +kernel
theorem dX6_sayHill_97 : decode cX6_sayHill 97 = .ok (.i2l, 1) := by decide +kernel
theorem dX6_sayHill_98 : decode cX6_sayHill 98 = .ok (.invokevirtual 200, 3) := by decide +kernel
theorem dX6_sayHill_101 : decode cX6_sayHill 101 = .ok (.return_, 1) := by decide +kernel
theorem dX6_digest_0 : decode cX6_digest 0 = .ok (.aload_n 0, 1) := by decide +kernel
theorem dX6_digest_1 : decode cX6_digest 1 = .ok (.ldc2_w 204, 3) := by decide +kernel
theorem dX6_digest_4 : decode cX6_digest 4 = .ok (.putfield 196, 3) := by decide +kernel
theorem dX6_digest_7 : decode cX6_digest 7 = .ok (.iconst 0, 1) := by decide +kernel
theorem dX6_digest_8 : decode cX6_digest 8 = .ok (.istore_n 1, 1) := by decide +kernel
theorem dX6_digest_9 : decode cX6_digest 9 = .ok (.iload_n 1, 1) := by decide +kernel
theorem dX6_digest_10 : decode cX6_digest 10 = .ok (.aload_n 0, 1) := by decide +kernel
theorem dX6_digest_11 : decode cX6_digest 11 = .ok (.getfield 68, 3) := by decide +kernel
theorem dX6_digest_14 : decode cX6_digest 14 = .ok (.if_icmp .ge 34, 3) := by decide +kernel
theorem dX6_digest_17 : decode cX6_digest 17 = .ok (.iconst 0, 1) := by decide +kernel
theorem dX6_digest_18 : decode cX6_digest 18 = .ok (.istore_n 2, 1) := by decide +kernel
theorem dX6_digest_19 : decode cX6_digest 19 = .ok (.iload_n 2, 1) := by decide +kernel
theorem dX6_digest_20 : decode cX6_digest 20 = .ok (.bipush 6, 2) := by decide +kernel
theorem dX6_digest_22 : decode cX6_digest 22 = .ok (.if_icmp .ge 20, 3) := by decide +kernel
theorem dX6_digest_25 : decode cX6_digest 25 = .ok (.aload_n 0, 1) := by decide +kernel
theorem dX6_digest_26 : decode cX6_digest 26 = .ok (.aload_n 0, 1) := by decide +kernel
theorem dX6_digest_27 : decode cX6_digest 27 = .ok (.iload_n 1, 1) := by decide +kernel
theorem dX6_digest_28 : decode cX6_digest 28 = .ok (.iload_n 2, 1) := by decide +kernel
theorem dX6_digest_29 : decode cX6_digest 29 = .ok (.invokevirtual 123, 3) := by decide +kernel
theorem dX6_digest_32 : decode cX6_digest 32 = .ok (.i2l, 1) := by decide +kernel
theorem dX6_digest_33 : decode cX6_digest 33 = .ok (.invokevirtual 200, 3) := by decide +kernel
theorem dX6_digest_36 : decode cX6_digest 36 = .ok (.iinc 2 1, 3) := by decide +kernel
theorem dX6_digest_39 : decode cX6_digest 39 = .ok (.goto (-20), 3) := by decide +kernel
theorem dX6_digest_42 : decode cX6_digest 42 = .ok (.iinc 1 1, 3) := by decide +kernel
theorem dX6_digest_45 : decode cX6_digest 45 = .ok (.goto (-36), 3) := by decide +kernel
theorem dX6_digest_48 : decode cX6_digest 48 = .ok (.aload_n 0, 1) := by decide +kernel
theorem dX6_digest_49 : decode cX6_digest 49 = .ok (.invokevirtual 86, 3) := by decide +kernel
theorem dX6_digest_52 : decode cX6_digest 52 = .ok (.ifCond .ne 7, 3) := by decide +kernel
theorem dX6_digest_55 : decode cX6_digest 55 = .ok (.aload_n 0, 1) := by decide +kernel
theorem dX6_digest_56 : decode cX6_digest 56 = .ok (.invokevirtual 206, 3) := by decide +kernel
theorem dX6_digest_59 : decode cX6_digest 59 = .ok (.iconst 0, 1) := by decide +kernel
theorem dX6_digest_60 : decode cX6_digest 60 = .ok (.istore_n 1, 1) := by decide +kernel
theorem dX6_digest_61 : decode cX6_digest 61 = .ok (.iload_n 1, 1) := by decide +kernel
theorem dX6_digest_62 : decode cX6_digest 62 = .ok (.aload_n 0, 1) := by decide +kernel
theorem dX6_digest_63 : decode cX6_digest 63 = .ok (.getfield 44, 3) := by decide +kernel
theorem dX6_digest_66 : decode cX6_digest 66 = .ok (.if_icmp .ge 20, 3) := by decide +kernel
theorem dX6_digest_69 : decode cX6_digest 69 = .ok (.aload_n 0, 1) := by decide +kernel
theorem dX6_digest_70 : decode cX6_digest 70 = .ok (.aload_n 0, 1) := by decide +kernel
theorem dX6_digest_71 : decode cX6_digest 71 = .ok (.getfield 7, 3) := by decide +kernel
theorem dX6_digest_74 : decode cX6_digest 74 = .ok (.iload_n 1, 1) := by decide +kernel
theorem dX6_digest_75 : decode cX6_digest 75 = .ok (.iaload, 1) := by decide +kernel
theorem dX6_digest_76 : decode cX6_digest 76 = .ok (.i2l, 1) := by decide +kernel
theorem dX6_digest_77 : decode cX6_digest 77 = .ok (.invokevirtual 200, 3) := by decide +kernel
theorem dX6_digest_80 : decode cX6_digest 80 = .ok (.iinc 1 1, 3) := by decide +kernel
theorem dX6_digest_83 : decode cX6_digest 83 = .ok (.goto (-22), 3) := by decide +kernel
theorem dX6_digest_86 : decode cX6_digest 86 = .ok (.iconst 0, 1) := by decide +kernel
theorem dX6_digest_87 : decode cX6_digest 87 = .ok (.istore_n 1, 1) := by decide +kernel
theorem dX6_digest_88 : decode cX6_digest 88 = .ok (.iload_n 1, 1) := by decide +kernel
theorem dX6_digest_89 : decode cX6_digest 89 = .ok (.bipush 9, 2) := by decide +kernel
theorem dX6_digest_91 : decode cX6_digest 91 = .ok (.if_icmp .ge 19, 3) := by decide +kernel
theorem dX6_digest_94 : decode cX6_digest 94 = .ok (.aload_n 0, 1) := by decide +kernel
theorem dX6_digest_95 : decode cX6_digest 95 = .ok (.aload_n 0, 1) := by decide +kernel
theorem dX6_digest_96 : decode cX6_digest 96 = .ok (.iload_n 1, 1) := by decide +kernel
theorem dX6_digest_97 : decode cX6_digest 97 = .ok (.invokevirtual 191, 3) := by decide +kernel
theorem dX6_digest_100 : decode cX6_digest 100 = .ok (.i2l, 1) := by decide +kernel
theorem dX6_digest_101 : decode cX6_digest 101 = .ok (.invokevirtual 200, 3) := by decide +kernel
theorem dX6_digest_104 : decode cX6_digest 104 = .ok (.iinc 1 1, 3) := by decide +kernel
theorem dX6_digest_107 : decode cX6_digest 107 = .ok (.goto (-19), 3) := by decide +kernel
theorem dX6_digest_110 : decode cX6_digest 110 = .ok (.aload_n 0, 1) := by decide +kernel
theorem dX6_digest_111 : decode cX6_digest 111 = .ok (.getfield 196, 3) := by decide +kernel
theorem dX6_digest_114 : decode cX6_digest 114 = .ok (.lreturn, 1) := by decide +kernel
end
section
theorem dJ0_length_8abf5_0 : decode cJ0_length_8abf5 0 = .ok (.aload_n 0, 1) := by decide +kernel
theorem dJ0_length_8abf5_1 : decode cJ0_length_8abf5 1 = .ok (.getfield 9, 3) := by decide +kernel
theorem dJ0_length_8abf5_4 : decode cJ0_length_8abf5 4 = .ok (.arraylength, 1) := by decide +kernel
theorem dJ0_length_8abf5_5 : decode cJ0_length_8abf5 5 = .ok (.aload_n 0, 1) := by decide +kernel
theorem dJ0_length_8abf5_6 : decode cJ0_length_8abf5 6 = .ok (.invokevirtual 335, 3) := by decide +kernel
theorem dJ0_length_8abf5_9 : decode cJ0_length_8abf5 9 = .ok (.ishr, 1) := by decide +kernel
theorem dJ0_length_8abf5_10 : decode cJ0_length_8abf5 10 = .ok (.ireturn, 1) := by decide +kernel
theorem dJ0_indexOf_0f7a4_0 : decode cJ0_indexOf_0f7a4 0 = .ok (.aload_n 0, 1) := by decide +kernel
theorem dJ0_indexOf_0f7a4_1 : decode cJ0_indexOf_0f7a4 1 = .ok (.iload_n 1, 1) := by decide +kernel
theorem dJ0_indexOf_0f7a4_2 : decode cJ0_indexOf_0f7a4 2 = .ok (.iconst 0, 1) := by decide +kernel
theorem dJ0_indexOf_0f7a4_3 : decode cJ0_indexOf_0f7a4 3 = .ok (.invokevirtual 633, 3) := by decide +kernel
theorem dJ0_indexOf_0f7a4_6 : decode cJ0_indexOf_0f7a4 6 = .ok (.ireturn, 1) := by decide +kernel
theorem dJ0_indexOf_7cf53_0 : decode cJ0_indexOf_7cf53 0 = .ok (.aload_n 0, 1) := by decide +kernel
theorem dJ0_indexOf_7cf53_1 : decode cJ0_indexOf_7cf53 1 = .ok (.invokevirtual 492, 3) := by decide +kernel
theorem dJ0_indexOf_7cf53_4 : decode cJ0_indexOf_7cf53 4 = .ok (.ifCond .eq 19, 3) := by decide +kernel
theorem dJ0_indexOf_7cf53_7 : decode cJ0_indexOf_7cf53 7 = .ok (.aload_n 0, 1) := by decide +kernel
theorem dJ0_indexOf_7cf53_8 : decode cJ0_indexOf_7cf53 8 = .ok (.getfield 9, 3) := by decide +kernel
theorem dJ0_indexOf_7cf53_11 : decode cJ0_indexOf_7cf53 11 = .ok (.iload_n 1, 1) := by decide +kernel
theorem dJ0_indexOf_7cf53_12 : decode cJ0_indexOf_7cf53 12 = .ok (.iload_n 2, 1) := by decide +kernel
theorem dJ0_indexOf_7cf53_13 : decode cJ0_indexOf_7cf53 13 = .ok (.aload_n 0, 1) := by decide +kernel
theorem dJ0_indexOf_7cf53_14 : decode cJ0_indexOf_7cf53 14 = .ok (.invokevirtual 505, 3) := by decide +kernel
theorem dJ0_indexOf_7cf53_17 : decode cJ0_indexOf_7cf53 17 = .ok (.invokestatic 637, 3) := by decide +kernel
theorem dJ0_indexOf_7cf53_20 : decode cJ0_indexOf_7cf53 20 = .ok (.goto 16, 3) := by decide +kernel
theorem dJ0_indexOf_7cf53_23 : decode cJ0_indexOf_7cf53 23 = .ok (.aload_n 0, 1) := by decide +kernel
theorem dJ0_indexOf_7cf53_24 : decode cJ0_indexOf_7cf53 24 = .ok (.getfield 9, 3) := by decide +kernel
theorem dJ0_indexOf_7cf53_27 : decode cJ0_indexOf_7cf53 27 = .ok (.iload_n 1, 1) := by decide +kernel
theorem dJ0_indexOf_7cf53_28 : decode cJ0_indexOf_7cf53 28 = .ok (.iload_n 2, 1) := by decide +kernel
theorem dJ0_indexOf_7cf53_29 : decode cJ0_indexOf_7cf53 29 = .ok (.aload_n 0, 1) := by decide +kernel
theorem dJ0_indexOf_7cf53_30 : decode cJ0_indexOf_7cf53 30 = .ok (.invokevirtual 505, 3) := by decide +kernel
theorem dJ0_indexOf_7cf53_33 : decode cJ0_indexOf_7cf53 33 = .ok (.invokestatic 640, 3) := by decide +kernel
theorem dJ0_indexOf_7cf53_36 : decode cJ0_indexOf_7cf53 36 = .ok (.ireturn, 1) := by decide +kernel
theorem dJ0_coder_7d493_0 : decode cJ0_coder_7d493 0 = .ok (.getstatic 38, 3) := by decide +kernel
theorem dJ0_coder_7d493_3 : decode cJ0_coder_7d493 3 = .ok (.ifCond .eq 10, 3) := by decide +kernel
theorem dJ0_coder_7d493_6 : decode cJ0_coder_7d493 6 = .ok (.aload_n 0, 1) := by decide +kernel
theorem dJ0_coder_7d493_7 : decode cJ0_coder_7d493 7 = .ok (.getfield 15, 3) := by decide +kernel
theorem dJ0_coder_7d493_10 : decode cJ0_coder_7d493 10 = .ok (.goto 4, 3) := by decide +kernel
theorem dJ0_coder_7d493_13 : decode cJ0_coder_7d493 13 = .ok (.iconst 1, 1) := by decide +kernel
theorem dJ0_coder_7d493_14 : decode cJ0_coder_7d493 14 = .ok (.ireturn, 1) := by decide +kernel
theorem dJ0_isLatin1_aae02_0 : decode cJ0_isLatin1_aae02 0 = .ok (.getstatic 38, 3) := by decide +kernel
theorem dJ0_isLatin1_aae02_3 : decode cJ0_isLatin1_aae02 3 = .ok (.ifCond .eq 14, 3) := by decide +kernel
theorem dJ0_isLatin1_aae02_6 : decode cJ0_isLatin1_aae02 6 = .ok (.aload_n 0, 1) := by decide +kernel
theorem dJ0_isLatin1_aae02_7 : decode cJ0_isLatin1_aae02 7 = .ok (.getfield 15, 3) := by decide +kernel
theorem dJ0_isLatin1_aae02_10 : decode cJ0_isLatin1_aae02 10 = .ok (.ifCond .ne 7, 3) := by decide +kernel
theorem dJ0_isLatin1_aae02_13 : decode cJ0_isLatin1_aae02 13 = .ok (.iconst 1, 1) := by decide +kernel
theorem dJ0_isLatin1_aae02_14 : decode cJ0_isLatin1_aae02 14 = .ok (.goto 4, 3) := by decide +kernel
theorem dJ0_isLatin1_aae02_17 : decode cJ0_isLatin1_aae02 17 = .ok (.iconst 0, 1) := by decide +kernel
theorem dJ0_isLatin1_aae02_18 : decode cJ0_isLatin1_aae02 18 = .ok (.ireturn, 1) := by decide +kernel
theorem dJ0_checkBoundsBeginEnd_23922_0 : decode cJ0_checkBoundsBeginEnd_23922 0 = .ok (.iload_n 0, 1) := by decide +kernel
theorem dJ0_checkBoundsBeginEnd_23922_1 : decode cJ0_checkBoundsBeginEnd_23922 1 = .ok (.iload_n 1, 1) := by decide +kernel
theorem dJ0_checkBoundsBeginEnd_23922_2 : decode cJ0_checkBoundsBeginEnd_23922 2 = .ok (.iload_n 2, 1) := by decide +kernel
theorem dJ0_checkBoundsBeginEnd_23922_3 : decode cJ0_checkBoundsBeginEnd_23922 3 = .ok (.getstatic 1053, 3) := by decide +kernel
theorem dJ0_checkBoundsBeginEnd_23922_6 : decode cJ0_checkBoundsBeginEnd_23922 6 = .ok (.invokestatic 1062, 3) := by decide +kernel
theorem dJ0_checkBoundsBeginEnd_23922_9 : decode cJ0_checkBoundsBeginEnd_23922 9 = .ok (.pop, 1) := by decide +kernel
theorem dJ0_checkBoundsBeginEnd_23922_10 : decode cJ0_checkBoundsBeginEnd_23922 10 = .ok (.return_, 1) := by decide +kernel
theorem dJ1_canEncode_9a6ad_0 : decode cJ1_canEncode_9a6ad 0 = .ok (.iload_n 0, 1) := by decide +kernel
theorem dJ1_canEncode_9a6ad_1 : decode cJ1_canEncode_9a6ad 1 = .ok (.ifCond .lt 14, 3) := by decide +kernel
theorem dJ1_canEncode_9a6ad_4 : decode cJ1_canEncode_9a6ad 4 = .ok (.iload_n 0, 1) := by decide +kernel
theorem dJ1_canEncode_9a6ad_5 : decode cJ1_canEncode_9a6ad 5 = .ok (.sipush 255, 3) := by decide +kernel
theorem dJ1_canEncode_9a6ad_8 : decode cJ1_canEncode_9a6ad 8 = .ok (.if_icmp .gt 7, 3) := by decide +kernel
theorem dJ1_canEncode_9a6ad_11 : decode cJ1_canEncode_9a6ad 11 = .ok (.iconst 1, 1) := by decide +kernel
theorem dJ1_canEncode_9a6ad_12 : decode cJ1_canEncode_9a6ad 12 = .ok (.goto 4, 3) := by decide +kernel
theorem dJ1_canEncode_9a6ad_15 : decode cJ1_canEncode_9a6ad 15 = .ok (.iconst 0, 1) := by decide +kernel
theorem dJ1_canEncode_9a6ad_16 : decode cJ1_canEncode_9a6ad 16 = .ok (.ireturn, 1) := by decide +kernel
theorem dJ1_indexOf_4cfef_0 : decode cJ1_indexOf_4cfef 0 = .ok (.iload_n 1, 1) := by decide +kernel
theorem dJ1_indexOf_4cfef_1 : decode cJ1_indexOf_4cfef 1 = .ok (.invokestatic 88, 3) := by decide +kernel
theorem dJ1_indexOf_4cfef_4 : decode cJ1_indexOf_4cfef 4 = .ok (.ifCond .ne 5, 3) := by decide +kernel
theorem dJ1_indexOf_4cfef_7 : decode cJ1_indexOf_4cfef 7 = .ok (.iconst (-1), 1) := by decide +kernel
theorem dJ1_indexOf_4cfef_8 : decode cJ1_indexOf_4cfef 8 = .ok (.ireturn, 1) := by decide +kernel
theorem dJ1_indexOf_4cfef_9 : decode cJ1_indexOf_4cfef 9 = .ok (.iload_n 2, 1) := by decide +kernel
theorem dJ1_indexOf_4cfef_10 : decode cJ1_indexOf_4cfef 10 = .ok (.iconst 0, 1) := by decide +kernel
theorem dJ1_indexOf_4cfef_11 : decode cJ1_indexOf_4cfef 11 = .ok (.invokestatic 92, 3) := by decide +kernel
theorem dJ1_indexOf_4cfef_14 : decode cJ1_indexOf_4cfef 14 = .ok (.istore_n 2, 1) := by decide +kernel
theorem dJ1_indexOf_4cfef_15 : decode cJ1_indexOf_4cfef 15 = .ok (.iload_n 3, 1) := by decide +kernel
theorem dJ1_indexOf_4cfef_16 : decode cJ1_indexOf_4cfef 16 = .ok (.aload_n 0, 1) := by decide +kernel
theorem dJ1_indexOf_4cfef_17 : decode cJ1_indexOf_4cfef 17 = .ok (.arraylength, 1) := by decide +kernel
theorem dJ1_indexOf_4cfef_18 : decode cJ1_indexOf_4cfef 18 = .ok (.invokestatic 38, 3) := by decide +kernel
theorem dJ1_indexOf_4cfef_21 : decode cJ1_indexOf_4cfef 21 = .ok (.istore_n 3, 1) := by decide +kernel
theorem dJ1_indexOf_4cfef_22 : decode cJ1_indexOf_4cfef 22 = .ok (.iload_n 2, 1) := by decide +kernel
theorem dJ1_indexOf_4cfef_23 : decode cJ1_indexOf_4cfef 23 = .ok (.iload_n 3, 1) := by decide +kernel
theorem dJ1_indexOf_4cfef_24 : decode cJ1_indexOf_4cfef 24 = .ok (.if_icmp .lt 5, 3) := by decide +kernel
theorem dJ1_indexOf_4cfef_27 : decode cJ1_indexOf_4cfef 27 = .ok (.iconst (-1), 1) := by decide +kernel
theorem dJ1_indexOf_4cfef_28 : decode cJ1_indexOf_4cfef 28 = .ok (.ireturn, 1) := by decide +kernel
theorem dJ1_indexOf_4cfef_29 : decode cJ1_indexOf_4cfef 29 = .ok (.aload_n 0, 1) := by decide +kernel
theorem dJ1_indexOf_4cfef_30 : decode cJ1_indexOf_4cfef 30 = .ok (.iload_n 1, 1) := by decide +kernel
theorem dJ1_indexOf_4cfef_31 : decode cJ1_indexOf_4cfef 31 = .ok (.iload_n 2, 1) := by decide +kernel
theorem dJ1_indexOf_4cfef_32 : decode cJ1_indexOf_4cfef 32 = .ok (.iload_n 3, 1) := by decide +kernel
theorem dJ1_indexOf_4cfef_33 : decode cJ1_indexOf_4cfef 33 = .ok (.invokestatic 95, 3) := by decide +kernel
theorem dJ1_indexOf_4cfef_36 : decode cJ1_indexOf_4cfef 36 = .ok (.ireturn, 1) := by decide +kernel
theorem dJ1_indexOfChar_4cfef_0 : decode cJ1_indexOfChar_4cfef 0 = .ok (.iload_n 1, 1) := by decide +kernel
theorem dJ1_indexOfChar_4cfef_1 : decode cJ1_indexOfChar_4cfef 1 = .ok (.i2b, 1) := by decide +kernel
theorem dJ1_indexOfChar_4cfef_2 : decode cJ1_indexOfChar_4cfef 2 = .ok (.istore 4, 2) := by decide +kernel
theorem dJ1_indexOfChar_4cfef_4 : decode cJ1_indexOfChar_4cfef 4 = .ok (.iload_n 2, 1) := by decide +kernel
theorem dJ1_indexOfChar_4cfef_5 : decode cJ1_indexOfChar_4cfef 5 = .ok (.istore 5, 2) := by decide +kernel
theorem dJ1_indexOfChar_4cfef_7 : decode cJ1_indexOfChar_4cfef 7 = .ok (.iload 5, 2) := by decide +kernel
theorem dJ1_indexOfChar_4cfef_9 : decode cJ1_indexOfChar_4cfef 9 = .ok (.iload_n 3, 1) := by decide +kernel
theorem dJ1_indexOfChar_4cfef_10 : decode cJ1_indexOfChar_4cfef 10 = .ok (.if_icmp .ge 21, 3) := by decide +kernel
theorem dJ1_indexOfChar_4cfef_13 : decode cJ1_indexOfChar_4cfef 13 = .ok (.aload_n 0, 1) := by decide +kernel
theorem dJ1_indexOfChar_4cfef_14 : decode cJ1_indexOfChar_4cfef 14 = .ok (.iload 5, 2) := by decide +kernel
theorem dJ1_indexOfChar_4cfef_16 : decode cJ1_indexOfChar_4cfef 16 = .ok (.baload, 1) := by decide +kernel
theorem dJ1_indexOfChar_4cfef_17 : decode cJ1_indexOfChar_4cfef 17 = .ok (.iload 4, 2) := by decide +kernel
theorem dJ1_indexOfChar_4cfef_19 : decode cJ1_indexOfChar_4cfef 19 = .ok (.if_icmp .ne 6, 3) := by decide +kernel
theorem dJ1_indexOfChar_4cfef_22 : decode cJ1_indexOfChar_4cfef 22 = .ok (.iload 5, 2) := by decide +kernel
theorem dJ1_indexOfChar_4cfef_24 : decode cJ1_indexOfChar_4cfef 24 = .ok (.ireturn, 1) := by decide +kernel
theorem dJ1_indexOfChar_4cfef_25 : decode cJ1_indexOfChar_4cfef 25 = .ok (.iinc 5 1, 3) := by decide +kernel
theorem dJ1_indexOfChar_4cfef_28 : decode cJ1_indexOfChar_4cfef 28 = .ok (.goto (-21), 3) := by decide +kernel
theorem dJ1_indexOfChar_4cfef_31 : decode cJ1_indexOfChar_4cfef 31 = .ok (.iconst (-1), 1) := by decide +kernel
theorem dJ1_indexOfChar_4cfef_32 : decode cJ1_indexOfChar_4cfef 32 = .ok (.ireturn, 1) := by decide +kernel
theorem dJ2_getChar_3b067_0 : decode cJ2_getChar_3b067 0 = .ok (.getstatic 44, 3) := by decide +kernel
theorem dJ2_getChar_3b067_3 : decode cJ2_getChar_3b067 3 = .ok (.ifCond .ne 25, 3) := by decide +kernel
theorem dJ2_getChar_3b067_6 : decode cJ2_getChar_3b067 6 = .ok (.iload_n 1, 1) := by decide +kernel
theorem dJ2_getChar_3b067_7 : decode cJ2_getChar_3b067 7 = .ok (.ifCond .lt 11, 3) := by decide +kernel
theorem dJ2_getChar_3b067_10 : decode cJ2_getChar_3b067 10 = .ok (.iload_n 1, 1) := by decide +kernel
theorem dJ2_getChar_3b067_11 : decode cJ2_getChar_3b067 11 = .ok (.aload_n 0, 1) := by decide +kernel
theorem dJ2_getChar_3b067_12 : decode cJ2_getChar_3b067 12 = .ok (.invokestatic 48, 3) := by decide +kernel
theorem dJ2_getChar_3b067_15 : decode cJ2_getChar_3b067 15 = .ok (.if_icmp .lt 13, 3) := by decide +kernel
theorem dJ2_getChar_3b067_18 : decode cJ2_getChar_3b067 18 = .ok (.new 52, 3) := by decide +kernel
theorem dJ2_getChar_3b067_21 : decode cJ2_getChar_3b067 21 = .ok (.dup, 1) := by decide +kernel
theorem dJ2_getChar_3b067_22 : decode cJ2_getChar_3b067 22 = .ok (.ldc 54, 2) := by decide +kernel
theorem dJ2_getChar_3b067_24 : decode cJ2_getChar_3b067 24 = .ok (.invokespecial 56, 3) := by decide +kernel
theorem dJ2_getChar_3b067_27 : decode cJ2_getChar_3b067 27 = .ok (.athrow, 1) := by decide +kernel
theorem dJ2_getChar_3b067_28 : decode cJ2_getChar_3b067 28 = .ok (.iload_n 1, 1) := by decide +kernel
theorem dJ2_getChar_3b067_29 : decode cJ2_getChar_3b067 29 = .ok (.iconst 1, 1) := by decide +kernel
theorem dJ2_getChar_3b067_30 : decode cJ2_getChar_3b067 30 = .ok (.ishl, 1) := by decide +kernel
theorem dJ2_getChar_3b067_31 : decode cJ2_getChar_3b067 31 = .ok (.istore_n 1, 1) := by decide +kernel
theorem dJ2_getChar_3b067_32 : decode cJ2_getChar_3b067 32 = .ok (.aload_n 0, 1) := by decide +kernel
theorem dJ2_getChar_3b067_33 : decode cJ2_getChar_3b067 33 = .ok (.iload_n 1, 1) := by decide +kernel
theorem dJ2_getChar_3b067_34 : decode cJ2_getChar_3b067 34 = .ok (.iinc 1 1, 3) := by decide +kernel
theorem dJ2_getChar_3b067_37 : decode cJ2_getChar_3b067 37 = .ok (.baload, 1) := by decide +kernel
theorem dJ2_getChar_3b067_38 : decode cJ2_getChar_3b067 38 = .ok (.sipush 255, 3) := by decide +kernel
theorem dJ2_getChar_3b067_41 : decode cJ2_getChar_3b067 41 = .ok (.iand, 1) := by decide +kernel
theorem dJ2_getChar_3b067_42 : decode cJ2_getChar_3b067 42 = .ok (.getstatic 59, 3) := by decide +kernel
theorem dJ2_getChar_3b067_45 : decode cJ2_getChar_3b067 45 = .ok (.ishl, 1) := by decide +kernel
theorem dJ2_getChar_3b067_46 : decode cJ2_getChar_3b067 46 = .ok (.aload_n 0, 1) := by decide +kernel
theorem dJ2_getChar_3b067_47 : decode cJ2_getChar_3b067 47 = .ok (.iload_n 1, 1) := by decide +kernel
theorem dJ2_getChar_3b067_48 : decode cJ2_getChar_3b067 48 = .ok (.baload, 1) := by decide +kernel
theorem dJ2_getChar_3b067_49 : decode cJ2_getChar_3b067 49 = .ok (.sipush 255, 3) := by decide +kernel
theorem dJ2_getChar_3b067_52 : decode cJ2_getChar_3b067 52 = .ok (.iand, 1) := by decide +kernel
theorem dJ2_getChar_3b067_53 : decode cJ2_getChar_3b067 53 = .ok (.getstatic 63, 3) := by decide +kernel
theorem dJ2_getChar_3b067_56 : decode cJ2_getChar_3b067 56 = .ok (.ishl, 1) := by decide +kernel
theorem dJ2_getChar_3b067_57 : decode cJ2_getChar_3b067 57 = .ok (.ior, 1) := by decide +kernel
theorem dJ2_getChar_3b067_58 : decode cJ2_getChar_3b067 58 = .ok (.i2c, 1) := by decide +kernel
theorem dJ2_getChar_3b067_59 : decode cJ2_getChar_3b067 59 = .ok (.ireturn, 1) := by decide +kernel
theorem dJ2_length_9d52b_0 : decode cJ2_length_9d52b 0 = .ok (.aload_n 0, 1) := by decide +kernel
theorem dJ2_length_9d52b_1 : decode cJ2_length_9d52b 1 = .ok (.arraylength, 1) := by decide +kernel
theorem dJ2_length_9d52b_2 : decode cJ2_length_9d52b 2 = .ok (.iconst 1, 1) := by decide +kernel
theorem dJ2_length_9d52b_3 : decode cJ2_length_9d52b 3 = .ok (.ishr, 1) := by decide +kernel
theorem dJ2_length_9d52b_4 : decode cJ2_length_9d52b 4 = .ok (.ireturn, 1) := by decide +kernel
theorem dJ2_indexOf_4cfef_0 : decode cJ2_indexOf_4cfef 0 = .ok (.iload_n 2, 1) := by decide +kernel
theorem dJ2_indexOf_4cfef_1 : decode cJ2_indexOf_4cfef 1 = .ok (.iconst 0, 1) := by decide +kernel
theorem dJ2_indexOf_4cfef_2 : decode cJ2_indexOf_4cfef 2 = .ok (.invokestatic 224, 3) := by decide +kernel
theorem dJ2_indexOf_4cfef_5 : decode cJ2_indexOf_4cfef 5 = .ok (.istore_n 2, 1) := by decide +kernel
theorem dJ2_indexOf_4cfef_6 : decode cJ2_indexOf_4cfef 6 = .ok (.iload_n 3, 1) := by decide +kernel
theorem dJ2_indexOf_4cfef_7 : decode cJ2_indexOf_4cfef 7 = .ok (.aload_n 0, 1) := by decide +kernel
theorem dJ2_indexOf_4cfef_8 : decode cJ2_indexOf_4cfef 8 = .ok (.arraylength, 1) := by decide +kernel
theorem dJ2_indexOf_4cfef_9 : decode cJ2_indexOf_4cfef 9 = .ok (.iconst 1, 1) := by decide +kernel
theorem dJ2_indexOf_4cfef_10 : decode cJ2_indexOf_4cfef 10 = .ok (.ishr, 1) := by decide +kernel
theorem dJ2_indexOf_4cfef_11 : decode cJ2_indexOf_4cfef 11 = .ok (.invokestatic 183, 3) := by decide +kernel
theorem dJ2_indexOf_4cfef_14 : decode cJ2_indexOf_4cfef 14 = .ok (.istore_n 3, 1) := by decide +kernel
theorem dJ2_indexOf_4cfef_15 : decode cJ2_indexOf_4cfef 15 = .ok (.iload_n 2, 1) := by decide +kernel
theorem dJ2_indexOf_4cfef_16 : decode cJ2_indexOf_4cfef 16 = .ok (.iload_n 3, 1) := by decide +kernel
theorem dJ2_indexOf_4cfef_17 : decode cJ2_indexOf_4cfef 17 = .ok (.if_icmp .lt 5, 3) := by decide +kernel
theorem dJ2_indexOf_4cfef_20 : decode cJ2_indexOf_4cfef 20 = .ok (.iconst (-1), 1) := by decide +kernel
theorem dJ2_indexOf_4cfef_21 : decode cJ2_indexOf_4cfef 21 = .ok (.ireturn, 1) := by decide +kernel
theorem dJ2_indexOf_4cfef_22 : decode cJ2_indexOf_4cfef 22 = .ok (.iload_n 1, 1) := by decide +kernel
theorem dJ2_indexOf_4cfef_23 : decode cJ2_indexOf_4cfef 23 = .ok (.ldc 227, 2) := by decide +kernel
theorem dJ2_indexOf_4cfef_25 : decode cJ2_indexOf_4cfef 25 = .ok (.if_icmp .ge 11, 3) := by decide +kernel
theorem dJ2_indexOf_4cfef_28 : decode cJ2_indexOf_4cfef 28 = .ok (.aload_n 0, 1) := by decide +kernel
theorem dJ2_indexOf_4cfef_29 : decode cJ2_indexOf_4cfef 29 = .ok (.iload_n 1, 1) := by decide +kernel
theorem dJ2_indexOf_4cfef_30 : decode cJ2_indexOf_4cfef 30 = .ok (.iload_n 2, 1) := by decide +kernel
theorem dJ2_indexOf_4cfef_31 : decode cJ2_indexOf_4cfef 31 = .ok (.iload_n 3, 1) := by decide +kernel
theorem dJ2_indexOf_4cfef_32 : decode cJ2_indexOf_4cfef 32 = .ok (.invokestatic 228, 3) := by decide +kernel
theorem dJ2_indexOf_4cfef_35 : decode cJ2_indexOf_4cfef 35 = .ok (.ireturn, 1) := by decide +kernel
theorem dJ2_indexOf_4cfef_36 : decode cJ2_indexOf_4cfef 36 = .ok (.aload_n 0, 1) := by decide +kernel
theorem dJ2_indexOf_4cfef_37 : decode cJ2_indexOf_4cfef 37 = .ok (.iload_n 1, 1) := by decide +kernel
theorem dJ2_indexOf_4cfef_38 : decode cJ2_indexOf_4cfef 38 = .ok (.iload_n 2, 1) := by decide +kernel
theorem dJ2_indexOf_4cfef_39 : decode cJ2_indexOf_4cfef 39 = .ok (.iload_n 3, 1) := by decide +kernel
theorem dJ2_indexOf_4cfef_40 : decode cJ2_indexOf_4cfef 40 = .ok (.invokestatic 232, 3) := by decide +kernel
theorem dJ2_indexOf_4cfef_43 : decode cJ2_indexOf_4cfef 43 = .ok (.ireturn, 1) := by decide +kernel
theorem dJ2_indexOfChar_4cfef_0 : decode cJ2_indexOfChar_4cfef 0 = .ok (.iload_n 2, 1) := by decide +kernel
theorem dJ2_indexOfChar_4cfef_1 : decode cJ2_indexOfChar_4cfef 1 = .ok (.iload_n 3, 1) := by decide +kernel
theorem dJ2_indexOfChar_4cfef_2 : decode cJ2_indexOfChar_4cfef 2 = .ok (.aload_n 0, 1) := by decide +kernel
theorem dJ2_indexOfChar_4cfef_3 : decode cJ2_indexOfChar_4cfef 3 = .ok (.invokestatic 96, 3) := by decide +kernel
theorem dJ2_indexOfChar_4cfef_6 : decode cJ2_indexOfChar_4cfef 6 = .ok (.aload_n 0, 1) := by decide +kernel
theorem dJ2_indexOfChar_4cfef_7 : decode cJ2_indexOfChar_4cfef 7 = .ok (.iload_n 1, 1) := by decide +kernel
theorem dJ2_indexOfChar_4cfef_8 : decode cJ2_indexOfChar_4cfef 8 = .ok (.iload_n 2, 1) := by decide +kernel
theorem dJ2_indexOfChar_4cfef_9 : decode cJ2_indexOfChar_4cfef 9 = .ok (.iload_n 3, 1) := by decide +kernel
theorem dJ2_indexOfChar_4cfef_10 : decode cJ2_indexOfChar_4cfef 10 = .ok (.invokestatic 244, 3) := by decide +kernel
theorem dJ2_indexOfChar_4cfef_13 : decode cJ2_indexOfChar_4cfef 13 = .ok (.ireturn, 1) := by decide +kernel
theorem dJ2_indexOfCharUnsafe_4cfef_0 : decode cJ2_indexOfCharUnsafe_4cfef 0 = .ok (.iload_n 2, 1) := by decide +kernel
theorem dJ2_indexOfCharUnsafe_4cfef_1 : decode cJ2_indexOfCharUnsafe_4cfef 1 = .ok (.istore 4, 2) := by decide +kernel
theorem dJ2_indexOfCharUnsafe_4cfef_3 : decode cJ2_indexOfCharUnsafe_4cfef 3 = .ok (.iload 4, 2) := by decide +kernel
theorem dJ2_indexOfCharUnsafe_4cfef_5 : decode cJ2_indexOfCharUnsafe_4cfef 5 = .ok (.iload_n 3, 1) := by decide +kernel
theorem dJ2_indexOfCharUnsafe_4cfef_6 : decode cJ2_indexOfCharUnsafe_4cfef 6 = .ok (.if_icmp .ge 22, 3) := by decide +kernel
theorem dJ2_indexOfCharUnsafe_4cfef_9 : decode cJ2_indexOfCharUnsafe_4cfef 9 = .ok (.aload_n 0, 1) := by decide +kernel
theorem dJ2_indexOfCharUnsafe_4cfef_10 : decode cJ2_indexOfCharUnsafe_4cfef 10 = .ok (.iload 4, 2) := by decide +kernel
theorem dJ2_indexOfCharUnsafe_4cfef_12 : decode cJ2_indexOfCharUnsafe_4cfef 12 = .ok (.invokestatic 71, 3) := by decide +kernel
theorem dJ2_indexOfCharUnsafe_4cfef_15 : decode cJ2_indexOfCharUnsafe_4cfef 15 = .ok (.iload_n 1, 1) := by decide +kernel
theorem dJ2_indexOfCharUnsafe_4cfef_16 : decode cJ2_indexOfCharUnsafe_4cfef 16 = .ok (.if_icmp .ne 6, 3) := by decide +kernel
theorem dJ2_indexOfCharUnsafe_4cfef_19 : decode cJ2_indexOfCharUnsafe_4cfef 19 = .ok (.iload 4, 2) := by decide +kernel
theorem dJ2_indexOfCharUnsafe_4cfef_21 : decode cJ2_indexOfCharUnsafe_4cfef 21 = .ok (.ireturn, 1) := by decide +kernel
theorem dJ2_indexOfCharUnsafe_4cfef_22 : decode cJ2_indexOfCharUnsafe_4cfef 22 = .ok (.iinc 4 1, 3) := by decide +kernel
theorem dJ2_indexOfCharUnsafe_4cfef_25 : decode cJ2_indexOfCharUnsafe_4cfef 25 = .ok (.goto (-22), 3) := by decide +kernel
theorem dJ2_indexOfCharUnsafe_4cfef_28 : decode cJ2_indexOfCharUnsafe_4cfef 28 = .ok (.iconst (-1), 1) := by decide +kernel
theorem dJ2_indexOfCharUnsafe_4cfef_29 : decode cJ2_indexOfCharUnsafe_4cfef 29 = .ok (.ireturn, 1) := by decide +kernel
theorem dJ2_indexOfSupplementary_4cfef_0 : decode cJ2_indexOfSupplementary_4cfef 0 = .ok (.iload_n 1, 1) := by decide +kernel
theorem dJ2_indexOfSupplementary_4cfef_1 : decode cJ2_indexOfSupplementary_4cfef 1 = .ok (.invokestatic 164, 3) := by decide +kernel
theorem dJ2_indexOfSupplementary_4cfef_4 : decode cJ2_indexOfSupplementary_4cfef 4 = .ok (.ifCond .eq 65, 3) := by decide +kernel
theorem dJ2_indexOfSupplementary_4cfef_7 : decode cJ2_indexOfSupplementary_4cfef 7 = .ok (.iload_n 1, 1) := by decide +kernel
theorem dJ2_indexOfSupplementary_4cfef_8 : decode cJ2_indexOfSupplementary_4cfef 8 = .ok (.invokestatic 157, 3) := by decide +kernel
theorem dJ2_indexOfSupplementary_4cfef_11 : decode cJ2_indexOfSupplementary_4cfef 11 = .ok (.istore 4, 2) := by decide +kernel
theorem dJ2_indexOfSupplementary_4cfef_13 : decode cJ2_indexOfSupplementary_4cfef 13 = .ok (.iload_n 1, 1) := by decide +kernel
theorem dJ2_indexOfSupplementary_4cfef_14 : decode cJ2_indexOfSupplementary_4cfef 14 = .ok (.invokestatic 161, 3) := by decide +kernel
theorem dJ2_indexOfSupplementary_4cfef_17 : decode cJ2_indexOfSupplementary_4cfef 17 = .ok (.istore 5, 2) := by decide +kernel
theorem dJ2_indexOfSupplementary_4cfef_19 : decode cJ2_indexOfSupplementary_4cfef 19 = .ok (.iload_n 2, 1) := by decide +kernel
theorem dJ2_indexOfSupplementary_4cfef_20 : decode cJ2_indexOfSupplementary_4cfef 20 = .ok (.iload_n 3, 1) := by decide +kernel
theorem dJ2_indexOfSupplementary_4cfef_21 : decode cJ2_indexOfSupplementary_4cfef 21 = .ok (.aload_n 0, 1) := by decide +kernel
theorem dJ2_indexOfSupplementary_4cfef_22 : decode cJ2_indexOfSupplementary_4cfef 22 = .ok (.invokestatic 96, 3) := by decide +kernel
theorem dJ2_indexOfSupplementary_4cfef_25 : decode cJ2_indexOfSupplementary_4cfef 25 = .ok (.iload_n 2, 1) := by decide +kernel
theorem dJ2_indexOfSupplementary_4cfef_26 : decode cJ2_indexOfSupplementary_4cfef 26 = .ok (.istore 6, 2) := by decide +kernel
theorem dJ2_indexOfSupplementary_4cfef_28 : decode cJ2_indexOfSupplementary_4cfef 28 = .ok (.iload 6, 2) := by decide +kernel
theorem dJ2_indexOfSupplementary_4cfef_30 : decode cJ2_indexOfSupplementary_4cfef 30 = .ok (.iload_n 3, 1) := by decide +kernel
theorem dJ2_indexOfSupplementary_4cfef_31 : decode cJ2_indexOfSupplementary_4cfef 31 = .ok (.iconst 1, 1) := by decide +kernel
theorem dJ2_indexOfSupplementary_4cfef_32 : decode cJ2_indexOfSupplementary_4cfef 32 = .ok (.isub, 1) := by decide +kernel
theorem dJ2_indexOfSupplementary_4cfef_33 : decode cJ2_indexOfSupplementary_4cfef 33 = .ok (.if_icmp .ge 36, 3) := by decide +kernel
theorem dJ2_indexOfSupplementary_4cfef_36 : decode cJ2_indexOfSupplementary_4cfef 36 = .ok (.aload_n 0, 1) := by decide +kernel
theorem dJ2_indexOfSupplementary_4cfef_37 : decode cJ2_indexOfSupplementary_4cfef 37 = .ok (.iload 6, 2) := by decide +kernel
theorem dJ2_indexOfSupplementary_4cfef_39 : decode cJ2_indexOfSupplementary_4cfef 39 = .ok (.invokestatic 71, 3) := by decide +kernel
theorem dJ2_indexOfSupplementary_4cfef_42 : decode cJ2_indexOfSupplementary_4cfef 42 = .ok (.iload 4, 2) := by decide +kernel
theorem dJ2_indexOfSupplementary_4cfef_44 : decode cJ2_indexOfSupplementary_4cfef 44 = .ok (.if_icmp .ne 19, 3) := by decide +kernel
theorem dJ2_indexOfSupplementary_4cfef_47 : decode cJ2_indexOfSupplementary_4cfef 47 = .ok (.aload_n 0, 1) := by decide +kernel
theorem dJ2_indexOfSupplementary_4cfef_48 : decode cJ2_indexOfSupplementary_4cfef 48 = .ok (.iload 6, 2) := by decide +kernel
theorem dJ2_indexOfSupplementary_4cfef_50 : decode cJ2_indexOfSupplementary_4cfef 50 = .ok (.iconst 1, 1) := by decide +kernel
theorem dJ2_indexOfSupplementary_4cfef_51 : decode cJ2_indexOfSupplementary_4cfef 51 = .ok (.iadd, 1) := by decide +kernel
theorem dJ2_indexOfSupplementary_4cfef_52 : decode cJ2_indexOfSupplementary_4cfef 52 = .ok (.invokestatic 71, 3) := by decide +kernel
theorem dJ2_indexOfSupplementary_4cfef_55 : decode cJ2_indexOfSupplementary_4cfef 55 = .ok (.iload 5, 2) := by decide +kernel
theorem dJ2_indexOfSupplementary_4cfef_57 : decode cJ2_indexOfSupplementary_4cfef 57 = .ok (.if_icmp .ne 6, 3) := by decide +kernel
theorem dJ2_indexOfSupplementary_4cfef_60 : decode cJ2_indexOfSupplementary_4cfef 60 = .ok (.iload 6, 2) := by decide +kernel
theorem dJ2_indexOfSupplementary_4cfef_62 : decode cJ2_indexOfSupplementary_4cfef 62 = .ok (.ireturn, 1) := by decide +kernel
theorem dJ2_indexOfSupplementary_4cfef_63 : decode cJ2_indexOfSupplementary_4cfef 63 = .ok (.iinc 6 1, 3) := by decide +kernel
theorem dJ2_indexOfSupplementary_4cfef_66 : decode cJ2_indexOfSupplementary_4cfef 66 = .ok (.goto (-38), 3) := by decide +kernel
theorem dJ2_indexOfSupplementary_4cfef_69 : decode cJ2_indexOfSupplementary_4cfef 69 = .ok (.iconst (-1), 1) := by decide +kernel
theorem dJ2_indexOfSupplementary_4cfef_70 : decode cJ2_indexOfSupplementary_4cfef 70 = .ok (.ireturn, 1) := by decide +kernel
theorem dJ2_checkBoundsBeginEnd_d044e_0 : decode cJ2_checkBoundsBeginEnd_d044e 0 = .ok (.iload_n 0, 1) := by decide +kernel
theorem dJ2_checkBoundsBeginEnd_d044e_1 : decode cJ2_checkBoundsBeginEnd_d044e 1 = .ok (.iload_n 1, 1) := by decide +kernel
theorem dJ2_checkBoundsBeginEnd_d044e_2 : decode cJ2_checkBoundsBeginEnd_d044e 2 = .ok (.aload_n 2, 1) := by decide +kernel
theorem dJ2_checkBoundsBeginEnd_d044e_3 : decode cJ2_checkBoundsBeginEnd_d044e 3 = .ok (.invokestatic 48, 3) := by decide +kernel
theorem dJ2_checkBoundsBeginEnd_d044e_6 : decode cJ2_checkBoundsBeginEnd_d044e 6 = .ok (.invokestatic 241, 3) := by decide +kernel
theorem dJ2_checkBoundsBeginEnd_d044e_9 : decode cJ2_checkBoundsBeginEnd_d044e 9 = .ok (.return_, 1) := by decide +kernel
theorem dJ3_checkFromToIndex_8c36e_0 : decode cJ3_checkFromToIndex_8c36e 0 = .ok (.iload_n 0, 1) := by decide +kernel
theorem dJ3_checkFromToIndex_8c36e_1 : decode cJ3_checkFromToIndex_8c36e 1 = .ok (.ifCond .lt 13, 3) := by decide +kernel
theorem dJ3_checkFromToIndex_8c36e_4 : decode cJ3_checkFromToIndex_8c36e 4 = .ok (.iload_n 0, 1) := by decide +kernel
theorem dJ3_checkFromToIndex_8c36e_5 : decode cJ3_checkFromToIndex_8c36e 5 = .ok (.iload_n 1, 1) := by decide +kernel
theorem dJ3_checkFromToIndex_8c36e_6 : decode cJ3_checkFromToIndex_8c36e 6 = .ok (.if_icmp .gt 8, 3) := by decide +kernel
theorem dJ3_checkFromToIndex_8c36e_9 : decode cJ3_checkFromToIndex_8c36e 9 = .ok (.iload_n 1, 1) := by decide +kernel
theorem dJ3_checkFromToIndex_8c36e_10 : decode cJ3_checkFromToIndex_8c36e 10 = .ok (.iload_n 2, 1) := by decide +kernel
theorem dJ3_checkFromToIndex_8c36e_11 : decode cJ3_checkFromToIndex_8c36e 11 = .ok (.if_icmp .le 11, 3) := by decide +kernel
theorem dJ3_checkFromToIndex_8c36e_14 : decode cJ3_checkFromToIndex_8c36e 14 = .ok (.aload_n 3, 1) := by decide +kernel
theorem dJ3_checkFromToIndex_8c36e_15 : decode cJ3_checkFromToIndex_8c36e 15 = .ok (.iload_n 0, 1) := by decide +kernel
theorem dJ3_checkFromToIndex_8c36e_16 : decode cJ3_checkFromToIndex_8c36e 16 = .ok (.iload_n 1, 1) := by decide +kernel
theorem dJ3_checkFromToIndex_8c36e_17 : decode cJ3_checkFromToIndex_8c36e 17 = .ok (.iload_n 2, 1) := by decide +kernel
theorem dJ3_checkFromToIndex_8c36e_18 : decode cJ3_checkFromToIndex_8c36e 18 = .ok (.invokestatic 99, 3) := by decide +kernel
theorem dJ3_checkFromToIndex_8c36e_21 : decode cJ3_checkFromToIndex_8c36e 21 = .ok (.athrow, 1) := by decide +kernel
theorem dJ3_checkFromToIndex_8c36e_22 : decode cJ3_checkFromToIndex_8c36e 22 = .ok (.iload_n 0, 1) := by decide +kernel
theorem dJ3_checkFromToIndex_8c36e_23 : decode cJ3_checkFromToIndex_8c36e 23 = .ok (.ireturn, 1) := by decide +kernel
theorem dJ6_bitCount_0f7a4_0 : decode cJ6_bitCount_0f7a4 0 = .ok (.iload_n 0, 1) := by decide +kernel
theorem dJ6_bitCount_0f7a4_1 : decode cJ6_bitCount_0f7a4 1 = .ok (.iload_n 0, 1) := by decide +kernel
theorem dJ6_bitCount_0f7a4_2 : decode cJ6_bitCount_0f7a4 2 = .ok (.iconst 1, 1) := by decide +kernel
theorem dJ6_bitCount_0f7a4_3 : decode cJ6_bitCount_0f7a4 3 = .ok (.iushr, 1) := by decide +kernel
theorem dJ6_bitCount_0f7a4_4 : decode cJ6_bitCount_0f7a4 4 = .ok (.ldc_w 265, 3) := by decide +kernel
theorem dJ6_bitCount_0f7a4_7 : decode cJ6_bitCount_0f7a4 7 = .ok (.iand, 1) := by decide +kernel
theorem dJ6_bitCount_0f7a4_8 : decode cJ6_bitCount_0f7a4 8 = .ok (.isub, 1) := by decide +kernel
theorem dJ6_bitCount_0f7a4_9 : decode cJ6_bitCount_0f7a4 9 = .ok (.istore_n 0, 1) := by decide +kernel
theorem dJ6_bitCount_0f7a4_10 : decode cJ6_bitCount_0f7a4 10 = .ok (.iload_n 0, 1) := by decide +kernel
theorem dJ6_bitCount_0f7a4_11 : decode cJ6_bitCount_0f7a4 11 = .ok (.ldc_w 266, 3) := by decide +kernel
theorem dJ6_bitCount_0f7a4_14 : decode cJ6_bitCount_0f7a4 14 = .ok (.iand, 1) := by decide +kernel
theorem dJ6_bitCount_0f7a4_15 : decode cJ6_bitCount_0f7a4 15 = .ok (.iload_n 0, 1) := by decide +kernel
theorem dJ6_bitCount_0f7a4_16 : decode cJ6_bitCount_0f7a4 16 = .ok (.iconst 2, 1) := by decide +kernel
theorem dJ6_bitCount_0f7a4_17 : decode cJ6_bitCount_0f7a4 17 = .ok (.iushr, 1) := by decide +kernel
theorem dJ6_bitCount_0f7a4_18 : decode cJ6_bitCount_0f7a4 18 = .ok (.ldc_w 266, 3) := by decide +kernel
theorem dJ6_bitCount_0f7a4_21 : decode cJ6_bitCount_0f7a4 21 = .ok (.iand, 1) := by decide +kernel
theorem dJ6_bitCount_0f7a4_22 : decode cJ6_bitCount_0f7a4 22 = .ok (.iadd, 1) := by decide +kernel
theorem dJ6_bitCount_0f7a4_23 : decode cJ6_bitCount_0f7a4 23 = .ok (.istore_n 0, 1) := by decide +kernel
theorem dJ6_bitCount_0f7a4_24 : decode cJ6_bitCount_0f7a4 24 = .ok (.iload_n 0, 1) := by decide +kernel
theorem dJ6_bitCount_0f7a4_25 : decode cJ6_bitCount_0f7a4 25 = .ok (.iload_n 0, 1) := by decide +kernel
theorem dJ6_bitCount_0f7a4_26 : decode cJ6_bitCount_0f7a4 26 = .ok (.iconst 4, 1) := by decide +kernel
theorem dJ6_bitCount_0f7a4_27 : decode cJ6_bitCount_0f7a4 27 = .ok (.iushr, 1) := by decide +kernel
theorem dJ6_bitCount_0f7a4_28 : decode cJ6_bitCount_0f7a4 28 = .ok (.iadd, 1) := by decide +kernel
theorem dJ6_bitCount_0f7a4_29 : decode cJ6_bitCount_0f7a4 29 = .ok (.ldc_w 267, 3) := by decide +kernel
theorem dJ6_bitCount_0f7a4_32 : decode cJ6_bitCount_0f7a4 32 = .ok (.iand, 1) := by decide +kernel
theorem dJ6_bitCount_0f7a4_33 : decode cJ6_bitCount_0f7a4 33 = .ok (.istore_n 0, 1) := by decide +kernel
theorem dJ6_bitCount_0f7a4_34 : decode cJ6_bitCount_0f7a4 34 = .ok (.iload_n 0, 1) := by decide +kernel
theorem dJ6_bitCount_0f7a4_35 : decode cJ6_bitCount_0f7a4 35 = .ok (.iload_n 0, 1) := by decide +kernel
theorem dJ6_bitCount_0f7a4_36 : decode cJ6_bitCount_0f7a4 36 = .ok (.bipush 8, 2) := by decide +kernel
theorem dJ6_bitCount_0f7a4_38 : decode cJ6_bitCount_0f7a4 38 = .ok (.iushr, 1) := by decide +kernel
theorem dJ6_bitCount_0f7a4_39 : decode cJ6_bitCount_0f7a4 39 = .ok (.iadd, 1) := by decide +kernel
theorem dJ6_bitCount_0f7a4_40 : decode cJ6_bitCount_0f7a4 40 = .ok (.istore_n 0, 1) := by decide +kernel
theorem dJ6_bitCount_0f7a4_41 : decode cJ6_bitCount_0f7a4 41 = .ok (.iload_n 0, 1) := by decide +kernel
theorem dJ6_bitCount_0f7a4_42 : decode cJ6_bitCount_0f7a4 42 = .ok (.iload_n 0, 1) := by decide +kernel
theorem dJ6_bitCount_0f7a4_43 : decode cJ6_bitCount_0f7a4 43 = .ok (.bipush 16, 2) := by decide +kernel
theorem dJ6_bitCount_0f7a4_45 : decode cJ6_bitCount_0f7a4 45 = .ok (.iushr, 1) := by decide +kernel
theorem dJ6_bitCount_0f7a4_46 : decode cJ6_bitCount_0f7a4 46 = .ok (.iadd, 1) := by decide +kernel
theorem dJ6_bitCount_0f7a4_47 : decode cJ6_bitCount_0f7a4 47 = .ok (.istore_n 0, 1) := by decide +kernel
theorem dJ6_bitCount_0f7a4_48 : decode cJ6_bitCount_0f7a4 48 = .ok (.iload_n 0, 1) := by decide +kernel
theorem dJ6_bitCount_0f7a4_49 : decode cJ6_bitCount_0f7a4 49 = .ok (.bipush 63, 2) := by decide +kernel
theorem dJ6_bitCount_0f7a4_51 : decode cJ6_bitCount_0f7a4 51 = .ok (.iand, 1) := by decide +kernel
theorem dJ6_bitCount_0f7a4_52 : decode cJ6_bitCount_0f7a4 52 = .ok (.ireturn, 1) := by decide +kernel
theorem dJ9_max_7cf53_0 : decode cJ9_max_7cf53 0 = .ok (.iload_n 0, 1) := by decide +kernel
theorem dJ9_max_7cf53_1 : decode cJ9_max_7cf53 1 = .ok (.iload_n 1, 1) := by decide +kernel
theorem dJ9_max_7cf53_2 : decode cJ9_max_7cf53 2 = .ok (.if_icmp .lt 7, 3) := by decide +kernel
theorem dJ9_max_7cf53_5 : decode cJ9_max_7cf53 5 = .ok (.iload_n 0, 1) := by decide +kernel
theorem dJ9_max_7cf53_6 : decode cJ9_max_7cf53 6 = .ok (.goto 4, 3) := by decide +kernel
theorem dJ9_max_7cf53_9 : decode cJ9_max_7cf53 9 = .ok (.iload_n 1, 1) := by decide +kernel
theorem dJ9_max_7cf53_10 : decode cJ9_max_7cf53 10 = .ok (.ireturn, 1) := by decide +kernel
theorem dJ9_min_7cf53_0 : decode cJ9_min_7cf53 0 = .ok (.iload_n 0, 1) := by decide +kernel
theorem dJ9_min_7cf53_1 : decode cJ9_min_7cf53 1 = .ok (.iload_n 1, 1) := by decide +kernel
theorem dJ9_min_7cf53_2 : decode cJ9_min_7cf53 2 = .ok (.if_icmp .gt 7, 3) := by decide +kernel
theorem dJ9_min_7cf53_5 : decode cJ9_min_7cf53 5 = .ok (.iload_n 0, 1) := by decide +kernel
theorem dJ9_min_7cf53_6 : decode cJ9_min_7cf53 6 = .ok (.goto 4, 3) := by decide +kernel
theorem dJ9_min_7cf53_9 : decode cJ9_min_7cf53 9 = .ok (.iload_n 1, 1) := by decide +kernel
theorem dJ9_min_7cf53_10 : decode cJ9_min_7cf53 10 = .ok (.ireturn, 1) := by decide +kernel
theorem dJ11_isValidCodePoint_9a6ad_0 : decode cJ11_isValidCodePoint_9a6ad 0 = .ok (.iload_n 0, 1) := by decide +kernel
theorem dJ11_isValidCodePoint_9a6ad_1 : decode cJ11_isValidCodePoint_9a6ad 1 = .ok (.bipush 16, 2) := by decide +kernel
theorem dJ11_isValidCodePoint_9a6ad_3 : decode cJ11_isValidCodePoint_9a6ad 3 = .ok (.iushr, 1) := by decide +kernel
theorem dJ11_isValidCodePoint_9a6ad_4 : decode cJ11_isValidCodePoint_9a6ad 4 = .ok (.istore_n 1, 1) := by decide +kernel
theorem dJ11_isValidCodePoint_9a6ad_5 : decode cJ11_isValidCodePoint_9a6ad 5 = .ok (.iload_n 1, 1) := by decide +kernel
theorem dJ11_isValidCodePoint_9a6ad_6 : decode cJ11_isValidCodePoint_9a6ad 6 = .ok (.bipush 17, 2) := by decide +kernel
theorem dJ11_isValidCodePoint_9a6ad_8 : decode cJ11_isValidCodePoint_9a6ad 8 = .ok (.if_icmp .ge 7, 3) := by decide +kernel
theorem dJ11_isValidCodePoint_9a6ad_11 : decode cJ11_isValidCodePoint_9a6ad 11 = .ok (.iconst 1, 1) := by decide +kernel
theorem dJ11_isValidCodePoint_9a6ad_12 : decode cJ11_isValidCodePoint_9a6ad 12 = .ok (.goto 4, 3) := by decide +kernel
theorem dJ11_isValidCodePoint_9a6ad_15 : decode cJ11_isValidCodePoint_9a6ad 15 = .ok (.iconst 0, 1) := by decide +kernel
theorem dJ11_isValidCodePoint_9a6ad_16 : decode cJ11_isValidCodePoint_9a6ad 16 = .ok (.ireturn, 1) := by decide +kernel
theorem dJ11_highSurrogate_5068e_0 : decode cJ11_highSurrogate_5068e 0 = .ok (.iload_n 0, 1) := by decide +kernel
theorem dJ11_highSurrogate_5068e_1 : decode cJ11_highSurrogate_5068e 1 = .ok (.bipush 10, 2) := by decide +kernel
theorem dJ11_highSurrogate_5068e_3 : decode cJ11_highSurrogate_5068e 3 = .ok (.iushr, 1) := by decide +kernel
theorem dJ11_highSurrogate_5068e_4 : decode cJ11_highSurrogate_5068e 4 = .ok (.ldc 110, 2) := by decide +kernel
theorem dJ11_highSurrogate_5068e_6 : decode cJ11_highSurrogate_5068e 6 = .ok (.iadd, 1) := by decide +kernel
theorem dJ11_highSurrogate_5068e_7 : decode cJ11_highSurrogate_5068e 7 = .ok (.i2c, 1) := by decide +kernel
theorem dJ11_highSurrogate_5068e_8 : decode cJ11_highSurrogate_5068e 8 = .ok (.ireturn, 1) := by decide +kernel
theorem dJ11_lowSurrogate_5068e_0 : decode cJ11_lowSurrogate_5068e 0 = .ok (.iload_n 0, 1) := by decide +kernel
theorem dJ11_lowSurrogate_5068e_1 : decode cJ11_lowSurrogate_5068e 1 = .ok (.sipush 1023, 3) := by decide +kernel
theorem dJ11_lowSurrogate_5068e_4 : decode cJ11_lowSurrogate_5068e 4 = .ok (.iand, 1) := by decide +kernel
theorem dJ11_lowSurrogate_5068e_5 : decode cJ11_lowSurrogate_5068e 5 = .ok (.ldc 76, 2) := by decide +kernel
theorem dJ11_lowSurrogate_5068e_7 : decode cJ11_lowSurrogate_5068e 7 = .ok (.iadd, 1) := by decide +kernel
theorem dJ11_lowSurrogate_5068e_8 : decode cJ11_lowSurrogate_5068e 8 = .ok (.i2c, 1) := by decide +kernel
theorem dJ11_lowSurrogate_5068e_9 : decode cJ11_lowSurrogate_5068e 9 = .ok (.ireturn, 1) := by decide +kernel
theorem dL_law_0 : decode cL_law 0 = .ok (.new 7, 3) := by decide +kernel
theorem dL_law_3 : decode cL_law 3 = .ok (.dup, 1) := by decide +kernel
theorem dL_law_4 : decode cL_law 4 = .ok (.invokespecial 9, 3) := by decide +kernel
theorem dL_law_7 : decode cL_law 7 = .ok (.astore_n 1, 1) := by decide +kernel
theorem dL_law_8 : decode cL_law 8 = .ok (.new 10, 3) := by decide +kernel
theorem dL_law_11 : decode cL_law 11 = .ok (.dup, 1) := by decide +kernel
theorem dL_law_12 : decode cL_law 12 = .ok (.invokespecial 12, 3) := by decide +kernel
theorem dL_law_15 : decode cL_law 15 = .ok (.astore_n 2, 1) := by decide +kernel
theorem dL_law_16 : decode cL_law 16 = .ok (.iconst 0, 1) := by decide +kernel
theorem dL_law_17 : decode cL_law 17 = .ok (.istore_n 3, 1) := by decide +kernel
theorem dL_law_18 : decode cL_law 18 = .ok (.iload_n 3, 1) := by decide +kernel
theorem dL_law_19 : decode cL_law 19 = .ok (.aload_n 0, 1) := by decide +kernel
theorem dL_law_20 : decode cL_law 20 = .ok (.arraylength, 1) := by decide +kernel
theorem dL_law_21 : decode cL_law 21 = .ok (.iconst 4, 1) := by decide +kernel
theorem dL_law_22 : decode cL_law 22 = .ok (.isub, 1) := by decide +kernel
theorem dL_law_23 : decode cL_law 23 = .ok (.if_icmp .gt 589, 3) := by decide +kernel
theorem dL_law_26 : decode cL_law 26 = .ok (.aload_n 0, 1) := by decide +kernel
theorem dL_law_27 : decode cL_law 27 = .ok (.iload_n 3, 1) := by decide +kernel
theorem dL_law_28 : decode cL_law 28 = .ok (.iaload, 1) := by decide +kernel
theorem dL_law_29 : decode cL_law 29 = .ok (.bipush 31, 2) := by decide +kernel
theorem dL_law_31 : decode cL_law 31 = .ok (.iand, 1) := by decide +kernel
theorem dL_law_32 : decode cL_law 32 = .ok (.tableswitch 574 0 20 #[100, 123, 136, 149, 162, 195, 228, 261, 294, 307, 330, 363, 396, 429, 442, 455, 468, 511, 524, 537, 560], 100) := by decide +kernel
theorem dL_law_132 : decode cL_law 132 = .ok (.aload_n 1, 1) := by decide +kernel
theorem dL_law_133 : decode cL_law 133 = .ok (.aload_n 0, 1) := by decide +kernel
theorem dL_law_134 : decode cL_law 134 = .ok (.iload_n 3, 1) := by decide +kernel
theorem dL_law_135 : decode cL_law 135 = .ok (.iconst 1, 1) := by decide +kernel
theorem dL_law_136 : decode cL_law 136 = .ok (.iadd, 1) := by decide +kernel
theorem dL_law_137 : decode cL_law 137 = .ok (.iaload, 1) := by decide +kernel
theorem dL_law_138 : decode cL_law 138 = .ok (.invokevirtual 13, 3) := by decide +kernel
theorem dL_law_141 : decode cL_law 141 = .ok (.aload_n 2, 1) := by decide +kernel
theorem dL_law_142 : decode cL_law 142 = .ok (.aload_n 0, 1) := by decide +kernel
theorem dL_law_143 : decode cL_law 143 = .ok (.iload_n 3, 1) := by decide +kernel
theorem dL_law_144 : decode cL_law 144 = .ok (.iconst 1, 1) := by decide +kernel
theorem dL_law_145 : decode cL_law 145 = .ok (.iadd, 1) := by decide +kernel
theorem dL_law_146 : decode cL_law 146 = .ok (.iaload, 1) := by decide +kernel
theorem dL_law_147 : decode cL_law 147 = .ok (.invokevirtual 17, 3) := by decide +kernel
theorem dL_law_150 : decode cL_law 150 = .ok (.if_icmp .eq 456, 3) := by decide +kernel
theorem dL_law_153 : decode cL_law 153 = .ok (.iconst 0, 1) := by decide +kernel
theorem dL_law_154 : decode cL_law 154 = .ok (.ireturn, 1) := by decide +kernel
theorem dL_law_155 : decode cL_law 155 = .ok (.aload_n 1, 1) := by decide +kernel
theorem dL_law_156 : decode cL_law 156 = .ok (.invokevirtual 18, 3) := by decide +kernel
theorem dL_law_159 : decode cL_law 159 = .ok (.aload_n 2, 1) := by decide +kernel
theorem dL_law_160 : decode cL_law 160 = .ok (.invokevirtual 22, 3) := by decide +kernel
theorem dL_law_163 : decode cL_law 163 = .ok (.if_icmp .eq 443, 3) := by decide +kernel
theorem dL_law_166 : decode cL_law 166 = .ok (.iconst 0, 1) := by decide +kernel
theorem dL_law_167 : decode cL_law 167 = .ok (.ireturn, 1) := by decide +kernel
theorem dL_law_168 : decode cL_law 168 = .ok (.aload_n 1, 1) := by decide +kernel
theorem dL_law_169 : decode cL_law 169 = .ok (.invokevirtual 23, 3) := by decide +kernel
theorem dL_law_172 : decode cL_law 172 = .ok (.aload_n 2, 1) := by decide +kernel
theorem dL_law_173 : decode cL_law 173 = .ok (.invokevirtual 26, 3) := by decide +kernel
theorem dL_law_176 : decode cL_law 176 = .ok (.if_icmp .eq 430, 3) := by decide +kernel
theorem dL_law_179 : decode cL_law 179 = .ok (.iconst 0, 1) := by decide +kernel
theorem dL_law_180 : decode cL_law 180 = .ok (.ireturn, 1) := by decide +kernel
theorem dL_law_181 : decode cL_law 181 = .ok (.aload_n 1, 1) := by decide +kernel
theorem dL_law_182 : decode cL_law 182 = .ok (.invokevirtual 27, 3) := by decide +kernel
theorem dL_law_185 : decode cL_law 185 = .ok (.aload_n 2, 1) := by decide +kernel
theorem dL_law_186 : decode cL_law 186 = .ok (.invokevirtual 30, 3) := by decide +kernel
theorem dL_law_189 : decode cL_law 189 = .ok (.if_icmp .eq 417, 3) := by decide +kernel
theorem dL_law_192 : decode cL_law 192 = .ok (.iconst 0, 1) := by decide +kernel
theorem dL_law_193 : decode cL_law 193 = .ok (.ireturn, 1) := by decide +kernel
theorem dL_law_194 : decode cL_law 194 = .ok (.aload_n 1, 1) := by decide +kernel
theorem dL_law_195 : decode cL_law 195 = .ok (.aload_n 0, 1) := by decide +kernel
theorem dL_law_196 : decode cL_law 196 = .ok (.iload_n 3, 1) := by decide +kernel
theorem dL_law_197 : decode cL_law 197 = .ok (.iconst 1, 1) := by decide +kernel
theorem dL_law_198 : decode cL_law 198 = .ok (.iadd, 1) := by decide +kernel
theorem dL_law_199 : decode cL_law 199 = .ok (.iaload, 1) := by decide +kernel
theorem dL_law_200 : decode cL_law 200 = .ok (.aload_n 0, 1) := by decide +kernel
theorem dL_law_201 : decode cL_law 201 = .ok (.iload_n 3, 1) := by decide +kernel
theorem dL_law_202 : decode cL_law 202 = .ok (.iconst 2, 1) := by decide +kernel
theorem dL_law_203 : decode cL_law 203 = .ok (.iadd, 1) := by decide +kernel
theorem dL_law_204 : decode cL_law 204 = .ok (.iaload, 1) := by decide +kernel
theorem dL_law_205 : decode cL_law 205 = .ok (.invokevirtual 31, 3) := by decide +kernel
theorem dL_law_208 : decode cL_law 208 = .ok (.aload_n 2, 1) := by decide +kernel
theorem dL_law_209 : decode cL_law 209 = .ok (.aload_n 0, 1) := by decide +kernel
theorem dL_law_210 : decode cL_law 210 = .ok (.iload_n 3, 1) := by decide +kernel
theorem dL_law_211 : decode cL_law 211 = .ok (.iconst 1, 1) := by decide +kernel
theorem dL_law_212 : decode cL_law 212 = .ok (.iadd, 1) := by decide +kernel
theorem dL_law_213 : decode cL_law 213 = .ok (.iaload, 1) := by decide +kernel
theorem dL_law_214 : decode cL_law 214 = .ok (.aload_n 0, 1) := by decide +kernel
theorem dL_law_215 : decode cL_law 215 = .ok (.iload_n 3, 1) := by decide +kernel
theorem dL_law_216 : decode cL_law 216 = .ok (.iconst 2, 1) := by decide +kernel
theorem dL_law_217 : decode cL_law 217 = .ok (.iadd, 1) := by decide +kernel
theorem dL_law_218 : decode cL_law 218 = .ok (.iaload, 1) := by decide +kernel
theorem dL_law_219 : decode cL_law 219 = .ok (.invokevirtual 35, 3) := by decide +kernel
theorem dL_law_222 : decode cL_law 222 = .ok (.if_icmp .eq 384, 3) := by decide +kernel
theorem dL_law_225 : decode cL_law 225 = .ok (.iconst 0, 1) := by decide +kernel
theorem dL_law_226 : decode cL_law 226 = .ok (.ireturn, 1) := by decide +kernel
theorem dL_law_227 : decode cL_law 227 = .ok (.aload_n 1, 1) := by decide +kernel
theorem dL_law_228 : decode cL_law 228 = .ok (.aload_n 0, 1) := by decide +kernel
theorem dL_law_229 : decode cL_law 229 = .ok (.iload_n 3, 1) := by decide +kernel
theorem dL_law_230 : decode cL_law 230 = .ok (.iconst 1, 1) := by decide +kernel
theorem dL_law_231 : decode cL_law 231 = .ok (.iadd, 1) := by decide +kernel
theorem dL_law_232 : decode cL_law 232 = .ok (.iaload, 1) := by decide +kernel
theorem dL_law_233 : decode cL_law 233 = .ok (.aload_n 0, 1) := by decide +kernel
theorem dL_law_234 : decode cL_law 234 = .ok (.iload_n 3, 1) := by decide +kernel
theorem dL_law_235 : decode cL_law 235 = .ok (.iconst 2, 1) := by decide +kernel
theorem dL_law_236 : decode cL_law 236 = .ok (.iadd, 1) := by decide +kernel
theorem dL_law_237 : decode cL_law 237 = .ok (.iaload, 1) := by decide +kernel
theorem dL_law_238 : decode cL_law 238 = .ok (.invokevirtual 36, 3) := by decide +kernel
theorem dL_law_241 : decode cL_law 241 = .ok (.aload_n 2, 1) := by decide +kernel
theorem dL_law_242 : decode cL_law 242 = .ok (.aload_n 0, 1) := by decide +kernel
theorem dL_law_243 : decode cL_law 243 = .ok (.iload_n 3, 1) := by decide +kernel
theorem dL_law_244 : decode cL_law 244 = .ok (.iconst 1, 1) := by decide +kernel
theorem dL_law_245 : decode cL_law 245 = .ok (.iadd, 1) := by decide +kernel
theorem dL_law_246 : decode cL_law 246 = .ok (.iaload, 1) := by decide +kernel
theorem dL_law_247 : decode cL_law 247 = .ok (.aload_n 0, 1) := by decide +kernel
theorem dL_law_248 : decode cL_law 248 = .ok (.iload_n 3, 1) := by decide +kernel
theorem dL_law_249 : decode cL_law 249 = .ok (.iconst 2, 1) := by decide +kernel
theorem dL_law_250 : decode cL_law 250 = .ok (.iadd, 1) := by decide +kernel
theorem dL_law_251 : decode cL_law 251 = .ok (.iaload, 1) := by decide +kernel
theorem dL_law_252 : decode cL_law 252 = .ok (.invokevirtual 39, 3) := by decide +kernel
theorem dL_law_255 : decode cL_law 255 = .ok (.if_icmp .eq 351, 3) := by decide +kernel
theorem dL_law_258 : decode cL_law 258 = .ok (.iconst 0, 1) := by decide +kernel
theorem dL_law_259 : decode cL_law 259 = .ok (.ireturn, 1) := by decide +kernel
theorem dL_law_260 : decode cL_law 260 = .ok (.aload_n 1, 1) := by decide +kernel
theorem dL_law_261 : decode cL_law 261 = .ok (.aload_n 0, 1) := by decide +kernel
theorem dL_law_262 : decode cL_law 262 = .ok (.iload_n 3, 1) := by decide +kernel
theorem dL_law_263 : decode cL_law 263 = .ok (.iconst 1, 1) := by decide +kernel
theorem dL_law_264 : decode cL_law 264 = .ok (.iadd, 1) := by decide +kernel
theorem dL_law_265 : decode cL_law 265 = .ok (.iaload, 1) := by decide +kernel
theorem dL_law_266 : decode cL_law 266 = .ok (.aload_n 0, 1) := by decide +kernel
theorem dL_law_267 : decode cL_law 267 = .ok (.iload_n 3, 1) := by decide +kernel
theorem dL_law_268 : decode cL_law 268 = .ok (.iconst 2, 1) := by decide +kernel
theorem dL_law_269 : decode cL_law 269 = .ok (.iadd, 1) := by decide +kernel
theorem dL_law_270 : decode cL_law 270 = .ok (.iaload, 1) := by decide +kernel
theorem dL_law_271 : decode cL_law 271 = .ok (.invokevirtual 40, 3) := by decide +kernel
theorem dL_law_274 : decode cL_law 274 = .ok (.aload_n 2, 1) := by decide +kernel
theorem dL_law_275 : decode cL_law 275 = .ok (.aload_n 0, 1) := by decide +kernel
theorem dL_law_276 : decode cL_law 276 = .ok (.iload_n 3, 1) := by decide +kernel
theorem dL_law_277 : decode cL_law 277 = .ok (.iconst 1, 1) := by decide +kernel
theorem dL_law_278 : decode cL_law 278 = .ok (.iadd, 1) := by decide +kernel
theorem dL_law_279 : decode cL_law 279 = .ok (.iaload, 1) := by decide +kernel
theorem dL_law_280 : decode cL_law 280 = .ok (.aload_n 0, 1) := by decide +kernel
theorem dL_law_281 : decode cL_law 281 = .ok (.iload_n 3, 1) := by decide +kernel
theorem dL_law_282 : decode cL_law 282 = .ok (.iconst 2, 1) := by decide +kernel
theorem dL_law_283 : decode cL_law 283 = .ok (.iadd, 1) := by decide +kernel
theorem dL_law_284 : decode cL_law 284 = .ok (.iaload, 1) := by decide +kernel
theorem dL_law_285 : decode cL_law 285 = .ok (.invokevirtual 43, 3) := by decide +kernel
theorem dL_law_288 : decode cL_law 288 = .ok (.if_icmp .eq 318, 3) := by decide +kernel
theorem dL_law_291 : decode cL_law 291 = .ok (.iconst 0, 1) := by decide +kernel
theorem dL_law_292 : decode cL_law 292 = .ok (.ireturn, 1) := by decide +kernel
theorem dL_law_293 : decode cL_law 293 = .ok (.aload_n 1, 1) := by decide +kernel
theorem dL_law_294 : decode cL_law 294 = .ok (.aload_n 0, 1) := by decide +kernel
theorem dL_law_295 : decode cL_law 295 = .ok (.iload_n 3, 1) := by decide +kernel
theorem dL_law_296 : decode cL_law 296 = .ok (.iconst 1, 1) := by decide +kernel
theorem dL_law_297 : decode cL_law 297 = .ok (.iadd, 1) := by decide +kernel
theorem dL_law_298 : decode cL_law 298 = .ok (.iaload, 1) := by decide +kernel
theorem dL_law_299 : decode cL_law 299 = .ok (.aload_n 0, 1) := by decide +kernel
theorem dL_law_300 : decode cL_law 300 = .ok (.iload_n 3, 1) := by decide +kernel
theorem dL_law_301 : decode cL_law 301 = .ok (.iconst 2, 1) := by decide +kernel
theorem dL_law_302 : decode cL_law 302 = .ok (.iadd, 1) := by decide +kernel
theorem dL_law_303 : decode cL_law 303 = .ok (.iaload, 1) := by decide +kernel
theorem dL_law_304 : decode cL_law 304 = .ok (.invokevirtual 44, 3) := by decide +kernel
theorem dL_law_307 : decode cL_law 307 = .ok (.aload_n 2, 1) := by decide +kernel
theorem dL_law_308 : decode cL_law 308 = .ok (.aload_n 0, 1) := by decide +kernel
theorem dL_law_309 : decode cL_law 309 = .ok (.iload_n 3, 1) := by decide +kernel
theorem dL_law_310 : decode cL_law 310 = .ok (.iconst 1, 1) := by decide +kernel
theorem dL_law_311 : decode cL_law 311 = .ok (.iadd, 1) := by decide +kernel
theorem dL_law_312 : decode cL_law 312 = .ok (.iaload, 1) := by decide +kernel
theorem dL_law_313 : decode cL_law 313 = .ok (.aload_n 0, 1) := by decide +kernel
theorem dL_law_314 : decode cL_law 314 = .ok (.iload_n 3, 1) := by decide +kernel
theorem dL_law_315 : decode cL_law 315 = .ok (.iconst 2, 1) := by decide +kernel
theorem dL_law_316 : decode cL_law 316 = .ok (.iadd, 1) := by decide +kernel
theorem dL_law_317 : decode cL_law 317 = .ok (.iaload, 1) := by decide +kernel
theorem dL_law_318 : decode cL_law 318 = .ok (.invokevirtual 47, 3) := by decide +kernel
theorem dL_law_321 : decode cL_law 321 = .ok (.if_icmp .eq 285, 3) := by decide +kernel
theorem dL_law_324 : decode cL_law 324 = .ok (.iconst 0, 1) := by decide +kernel
theorem dL_law_325 : decode cL_law 325 = .ok (.ireturn, 1) := by decide +kernel
theorem dL_law_326 : decode cL_law 326 = .ok (.aload_n 1, 1) := by decide +kernel
theorem dL_law_327 : decode cL_law 327 = .ok (.invokevirtual 48, 3) := by decide +kernel
theorem dL_law_330 : decode cL_law 330 = .ok (.aload_n 2, 1) := by decide +kernel
theorem dL_law_331 : decode cL_law 331 = .ok (.invokevirtual 51, 3) := by decide +kernel
theorem dL_law_334 : decode cL_law 334 = .ok (.if_icmp .eq 272, 3) := by decide +kernel
theorem dL_law_337 : decode cL_law 337 = .ok (.iconst 0, 1) := by decide +kernel
theorem dL_law_338 : decode cL_law 338 = .ok (.ireturn, 1) := by decide +kernel
theorem dL_law_339 : decode cL_law 339 = .ok (.aload_n 1, 1) := by decide +kernel
theorem dL_law_340 : decode cL_law 340 = .ok (.aload_n 0, 1) := by decide +kernel
theorem dL_law_341 : decode cL_law 341 = .ok (.iload_n 3, 1) := by decide +kernel
theorem dL_law_342 : decode cL_law 342 = .ok (.iconst 1, 1) := by decide +kernel
theorem dL_law_343 : decode cL_law 343 = .ok (.iadd, 1) := by decide +kernel
theorem dL_law_344 : decode cL_law 344 = .ok (.iaload, 1) := by decide +kernel
theorem dL_law_345 : decode cL_law 345 = .ok (.invokevirtual 52, 3) := by decide +kernel
theorem dL_law_348 : decode cL_law 348 = .ok (.aload_n 2, 1) := by decide +kernel
theorem dL_law_349 : decode cL_law 349 = .ok (.aload_n 0, 1) := by decide +kernel
theorem dL_law_350 : decode cL_law 350 = .ok (.iload_n 3, 1) := by decide +kernel
theorem dL_law_351 : decode cL_law 351 = .ok (.iconst 1, 1) := by decide +kernel
theorem dL_law_352 : decode cL_law 352 = .ok (.iadd, 1) := by decide +kernel
theorem dL_law_353 : decode cL_law 353 = .ok (.iaload, 1) := by decide +kernel
theorem dL_law_354 : decode cL_law 354 = .ok (.invokevirtual 55, 3) := by decide +kernel
theorem dL_law_357 : decode cL_law 357 = .ok (.if_icmp .eq 249, 3) := by decide +kernel
theorem dL_law_360 : decode cL_law 360 = .ok (.iconst 0, 1) := by decide +kernel
theorem dL_law_361 : decode cL_law 361 = .ok (.ireturn, 1) := by decide +kernel
theorem dL_law_362 : decode cL_law 362 = .ok (.aload_n 1, 1) := by decide +kernel
theorem dL_law_363 : decode cL_law 363 = .ok (.aload_n 0, 1) := by decide +kernel
theorem dL_law_364 : decode cL_law 364 = .ok (.iload_n 3, 1) := by decide +kernel
theorem dL_law_365 : decode cL_law 365 = .ok (.iconst 1, 1) := by decide +kernel
theorem dL_law_366 : decode cL_law 366 = .ok (.iadd, 1) := by decide +kernel
theorem dL_law_367 : decode cL_law 367 = .ok (.iaload, 1) := by decide +kernel
theorem dL_law_368 : decode cL_law 368 = .ok (.aload_n 0, 1) := by decide +kernel
theorem dL_law_369 : decode cL_law 369 = .ok (.iload_n 3, 1) := by decide +kernel
theorem dL_law_370 : decode cL_law 370 = .ok (.iconst 2, 1) := by decide +kernel
theorem dL_law_371 : decode cL_law 371 = .ok (.iadd, 1) := by decide +kernel
theorem dL_law_372 : decode cL_law 372 = .ok (.iaload, 1) := by decide +kernel
theorem dL_law_373 : decode cL_law 373 = .ok (.invokevirtual 56, 3) := by decide +kernel
theorem dL_law_376 : decode cL_law 376 = .ok (.aload_n 2, 1) := by decide +kernel
theorem dL_law_377 : decode cL_law 377 = .ok (.aload_n 0, 1) := by decide +kernel
theorem dL_law_378 : decode cL_law 378 = .ok (.iload_n 3, 1) := by decide +kernel
theorem dL_law_379 : decode cL_law 379 = .ok (.iconst 1, 1) := by decide +kernel
theorem dL_law_380 : decode cL_law 380 = .ok (.iadd, 1) := by decide +kernel
theorem dL_law_381 : decode cL_law 381 = .ok (.iaload, 1) := by decide +kernel
theorem dL_law_382 : decode cL_law 382 = .ok (.aload_n 0, 1) := by decide +kernel
theorem dL_law_383 : decode cL_law 383 = .ok (.iload_n 3, 1) := by decide +kernel
theorem dL_law_384 : decode cL_law 384 = .ok (.iconst 2, 1) := by decide +kernel
theorem dL_law_385 : decode cL_law 385 = .ok (.iadd, 1) := by decide +kernel
theorem dL_law_386 : decode cL_law 386 = .ok (.iaload, 1) := by decide +kernel
theorem dL_law_387 : decode cL_law 387 = .ok (.invokevirtual 59, 3) := by decide +kernel
theorem dL_law_390 : decode cL_law 390 = .ok (.if_icmp .eq 216, 3) := by decide +kernel
theorem dL_law_393 : decode cL_law 393 = .ok (.iconst 0, 1) := by decide +kernel
theorem dL_law_394 : decode cL_law 394 = .ok (.ireturn, 1) := by decide +kernel
theorem dL_law_395 : decode cL_law 395 = .ok (.aload_n 1, 1) := by decide +kernel
theorem dL_law_396 : decode cL_law 396 = .ok (.aload_n 0, 1) := by decide +kernel
theorem dL_law_397 : decode cL_law 397 = .ok (.iload_n 3, 1) := by decide +kernel
theorem dL_law_398 : decode cL_law 398 = .ok (.iconst 1, 1) := by decide +kernel
theorem dL_law_399 : decode cL_law 399 = .ok (.iadd, 1) := by decide +kernel
theorem dL_law_400 : decode cL_law 400 = .ok (.iaload, 1) := by decide +kernel
theorem dL_law_401 : decode cL_law 401 = .ok (.aload_n 0, 1) := by decide +kernel
theorem dL_law_402 : decode cL_law 402 = .ok (.iload_n 3, 1) := by decide +kernel
theorem dL_law_403 : decode cL_law 403 = .ok (.iconst 2, 1) := by decide +kernel
theorem dL_law_404 : decode cL_law 404 = .ok (.iadd, 1) := by decide +kernel
theorem dL_law_405 : decode cL_law 405 = .ok (.iaload, 1) := by decide +kernel
theorem dL_law_406 : decode cL_law 406 = .ok (.invokevirtual 60, 3) := by decide +kernel
theorem dL_law_409 : decode cL_law 409 = .ok (.aload_n 2, 1) := by decide +kernel
theorem dL_law_410 : decode cL_law 410 = .ok (.aload_n 0, 1) := by decide +kernel
theorem dL_law_411 : decode cL_law 411 = .ok (.iload_n 3, 1) := by decide +kernel
theorem dL_law_412 : decode cL_law 412 = .ok (.iconst 1, 1) := by decide +kernel
theorem dL_law_413 : decode cL_law 413 = .ok (.iadd, 1) := by decide +kernel
theorem dL_law_414 : decode cL_law 414 = .ok (.iaload, 1) := by decide +kernel
theorem dL_law_415 : decode cL_law 415 = .ok (.aload_n 0, 1) := by decide +kernel
theorem dL_law_416 : decode cL_law 416 = .ok (.iload_n 3, 1) := by decide +kernel
theorem dL_law_417 : decode cL_law 417 = .ok (.iconst 2, 1) := by decide +kernel
theorem dL_law_418 : decode cL_law 418 = .ok (.iadd, 1) := by decide +kernel
theorem dL_law_419 : decode cL_law 419 = .ok (.iaload, 1) := by decide +kernel
theorem dL_law_420 : decode cL_law 420 = .ok (.invokevirtual 63, 3) := by decide +kernel
theorem dL_law_423 : decode cL_law 423 = .ok (.if_icmp .eq 183, 3) := by decide +kernel
theorem dL_law_426 : decode cL_law 426 = .ok (.iconst 0, 1) := by decide +kernel
theorem dL_law_427 : decode cL_law 427 = .ok (.ireturn, 1) := by decide +kernel
theorem dL_law_428 : decode cL_law 428 = .ok (.aload_n 1, 1) := by decide +kernel
theorem dL_law_429 : decode cL_law 429 = .ok (.aload_n 0, 1) := by decide +kernel
theorem dL_law_430 : decode cL_law 430 = .ok (.iload_n 3, 1) := by decide +kernel
theorem dL_law_431 : decode cL_law 431 = .ok (.iconst 1, 1) := by decide +kernel
theorem dL_law_432 : decode cL_law 432 = .ok (.iadd, 1) := by decide +kernel
theorem dL_law_433 : decode cL_law 433 = .ok (.iaload, 1) := by decide +kernel
theorem dL_law_434 : decode cL_law 434 = .ok (.aload_n 0, 1) := by decide +kernel
theorem dL_law_435 : decode cL_law 435 = .ok (.iload_n 3, 1) := by decide +kernel
theorem dL_law_436 : decode cL_law 436 = .ok (.iconst 2, 1) := by decide +kernel
theorem dL_law_437 : decode cL_law 437 = .ok (.iadd, 1) := by decide +kernel
theorem dL_law_438 : decode cL_law 438 = .ok (.iaload, 1) := by decide +kernel
theorem dL_law_439 : decode cL_law 439 = .ok (.invokevirtual 64, 3) := by decide +kernel
theorem dL_law_442 : decode cL_law 442 = .ok (.aload_n 2, 1) := by decide +kernel
theorem dL_law_443 : decode cL_law 443 = .ok (.aload_n 0, 1) := by decide +kernel
theorem dL_law_444 : decode cL_law 444 = .ok (.iload_n 3, 1) := by decide +kernel
theorem dL_law_445 : decode cL_law 445 = .ok (.iconst 1, 1) := by decide +kernel
theorem dL_law_446 : decode cL_law 446 = .ok (.iadd, 1) := by decide +kernel
theorem dL_law_447 : decode cL_law 447 = .ok (.iaload, 1) := by decide +kernel
theorem dL_law_448 : decode cL_law 448 = .ok (.aload_n 0, 1) := by decide +kernel
theorem dL_law_449 : decode cL_law 449 = .ok (.iload_n 3, 1) := by decide +kernel
theorem dL_law_450 : decode cL_law 450 = .ok (.iconst 2, 1) := by decide +kernel
theorem dL_law_451 : decode cL_law 451 = .ok (.iadd, 1) := by decide +kernel
theorem dL_law_452 : decode cL_law 452 = .ok (.iaload, 1) := by decide +kernel
theorem dL_law_453 : decode cL_law 453 = .ok (.invokevirtual 67, 3) := by decide +kernel
theorem dL_law_456 : decode cL_law 456 = .ok (.if_icmp .eq 150, 3) := by decide +kernel
theorem dL_law_459 : decode cL_law 459 = .ok (.iconst 0, 1) := by decide +kernel
theorem dL_law_460 : decode cL_law 460 = .ok (.ireturn, 1) := by decide +kernel
theorem dL_law_461 : decode cL_law 461 = .ok (.aload_n 1, 1) := by decide +kernel
theorem dL_law_462 : decode cL_law 462 = .ok (.invokevirtual 68, 3) := by decide +kernel
theorem dL_law_465 : decode cL_law 465 = .ok (.aload_n 2, 1) := by decide +kernel
theorem dL_law_466 : decode cL_law 466 = .ok (.invokevirtual 71, 3) := by decide +kernel
theorem dL_law_469 : decode cL_law 469 = .ok (.if_icmp .eq 137, 3) := by decide +kernel
theorem dL_law_472 : decode cL_law 472 = .ok (.iconst 0, 1) := by decide +kernel
theorem dL_law_473 : decode cL_law 473 = .ok (.ireturn, 1) := by decide +kernel
theorem dL_law_474 : decode cL_law 474 = .ok (.aload_n 1, 1) := by decide +kernel
theorem dL_law_475 : decode cL_law 475 = .ok (.invokevirtual 72, 3) := by decide +kernel
theorem dL_law_478 : decode cL_law 478 = .ok (.aload_n 2, 1) := by decide +kernel
theorem dL_law_479 : decode cL_law 479 = .ok (.invokevirtual 75, 3) := by decide +kernel
theorem dL_law_482 : decode cL_law 482 = .ok (.if_icmp .eq 124, 3) := by decide +kernel
theorem dL_law_485 : decode cL_law 485 = .ok (.iconst 0, 1) := by decide +kernel
theorem dL_law_486 : decode cL_law 486 = .ok (.ireturn, 1) := by decide +kernel
theorem dL_law_487 : decode cL_law 487 = .ok (.aload_n 1, 1) := by decide +kernel
theorem dL_law_488 : decode cL_law 488 = .ok (.invokevirtual 76, 3) := by decide +kernel
theorem dL_law_491 : decode cL_law 491 = .ok (.aload_n 2, 1) := by decide +kernel
theorem dL_law_492 : decode cL_law 492 = .ok (.invokevirtual 79, 3) := by decide +kernel
theorem dL_law_495 : decode cL_law 495 = .ok (.if_icmp .eq 111, 3) := by decide +kernel
theorem dL_law_498 : decode cL_law 498 = .ok (.iconst 0, 1) := by decide +kernel
theorem dL_law_499 : decode cL_law 499 = .ok (.ireturn, 1) := by decide +kernel
theorem dL_law_500 : decode cL_law 500 = .ok (.aload_n 1, 1) := by decide +kernel
theorem dL_law_501 : decode cL_law 501 = .ok (.aload_n 0, 1) := by decide +kernel
theorem dL_law_502 : decode cL_law 502 = .ok (.iload_n 3, 1) := by decide +kernel
theorem dL_law_503 : decode cL_law 503 = .ok (.iconst 1, 1) := by decide +kernel
theorem dL_law_504 : decode cL_law 504 = .ok (.iadd, 1) := by decide +kernel
theorem dL_law_505 : decode cL_law 505 = .ok (.iaload, 1) := by decide +kernel
theorem dL_law_506 : decode cL_law 506 = .ok (.aload_n 0, 1) := by decide +kernel
theorem dL_law_507 : decode cL_law 507 = .ok (.iload_n 3, 1) := by decide +kernel
theorem dL_law_508 : decode cL_law 508 = .ok (.iconst 2, 1) := by decide +kernel
theorem dL_law_509 : decode cL_law 509 = .ok (.iadd, 1) := by decide +kernel
theorem dL_law_510 : decode cL_law 510 = .ok (.iaload, 1) := by decide +kernel
theorem dL_law_511 : decode cL_law 511 = .ok (.aload_n 0, 1) := by decide +kernel
theorem dL_law_512 : decode cL_law 512 = .ok (.iload_n 3, 1) := by decide +kernel
theorem dL_law_513 : decode cL_law 513 = .ok (.iconst 3, 1) := by decide +kernel
theorem dL_law_514 : decode cL_law 514 = .ok (.iadd, 1) := by decide +kernel
theorem dL_law_515 : decode cL_law 515 = .ok (.iaload, 1) := by decide +kernel
theorem dL_law_516 : decode cL_law 516 = .ok (.invokevirtual 80, 3) := by decide +kernel
theorem dL_law_519 : decode cL_law 519 = .ok (.aload_n 2, 1) := by decide +kernel
theorem dL_law_520 : decode cL_law 520 = .ok (.aload_n 0, 1) := by decide +kernel
theorem dL_law_521 : decode cL_law 521 = .ok (.iload_n 3, 1) := by decide +kernel
theorem dL_law_522 : decode cL_law 522 = .ok (.iconst 1, 1) := by decide +kernel
theorem dL_law_523 : decode cL_law 523 = .ok (.iadd, 1) := by decide +kernel
theorem dL_law_524 : decode cL_law 524 = .ok (.iaload, 1) := by decide +kernel
theorem dL_law_525 : decode cL_law 525 = .ok (.aload_n 0, 1) := by decide +kernel
theorem dL_law_526 : decode cL_law 526 = .ok (.iload_n 3, 1) := by decide +kernel
theorem dL_law_527 : decode cL_law 527 = .ok (.iconst 2, 1) := by decide +kernel
theorem dL_law_528 : decode cL_law 528 = .ok (.iadd, 1) := by decide +kernel
theorem dL_law_529 : decode cL_law 529 = .ok (.iaload, 1) := by decide +kernel
theorem dL_law_530 : decode cL_law 530 = .ok (.aload_n 0, 1) := by decide +kernel
theorem dL_law_531 : decode cL_law 531 = .ok (.iload_n 3, 1) := by decide +kernel
theorem dL_law_532 : decode cL_law 532 = .ok (.iconst 3, 1) := by decide +kernel
theorem dL_law_533 : decode cL_law 533 = .ok (.iadd, 1) := by decide +kernel
theorem dL_law_534 : decode cL_law 534 = .ok (.iaload, 1) := by decide +kernel
theorem dL_law_535 : decode cL_law 535 = .ok (.invokevirtual 84, 3) := by decide +kernel
theorem dL_law_538 : decode cL_law 538 = .ok (.if_icmp .eq 68, 3) := by decide +kernel
theorem dL_law_541 : decode cL_law 541 = .ok (.iconst 0, 1) := by decide +kernel
theorem dL_law_542 : decode cL_law 542 = .ok (.ireturn, 1) := by decide +kernel
theorem dL_law_543 : decode cL_law 543 = .ok (.aload_n 1, 1) := by decide +kernel
theorem dL_law_544 : decode cL_law 544 = .ok (.invokevirtual 85, 3) := by decide +kernel
theorem dL_law_547 : decode cL_law 547 = .ok (.aload_n 2, 1) := by decide +kernel
theorem dL_law_548 : decode cL_law 548 = .ok (.invokevirtual 88, 3) := by decide +kernel
theorem dL_law_551 : decode cL_law 551 = .ok (.if_icmp .eq 55, 3) := by decide +kernel
theorem dL_law_554 : decode cL_law 554 = .ok (.iconst 0, 1) := by decide +kernel
theorem dL_law_555 : decode cL_law 555 = .ok (.ireturn, 1) := by decide +kernel
theorem dL_law_556 : decode cL_law 556 = .ok (.aload_n 1, 1) := by decide +kernel
theorem dL_law_557 : decode cL_law 557 = .ok (.invokevirtual 89, 3) := by decide +kernel
theorem dL_law_560 : decode cL_law 560 = .ok (.aload_n 2, 1) := by decide +kernel
theorem dL_law_561 : decode cL_law 561 = .ok (.invokevirtual 92, 3) := by decide +kernel
theorem dL_law_564 : decode cL_law 564 = .ok (.if_icmp .eq 42, 3) := by decide +kernel
theorem dL_law_567 : decode cL_law 567 = .ok (.iconst 0, 1) := by decide +kernel
theorem dL_law_568 : decode cL_law 568 = .ok (.ireturn, 1) := by decide +kernel
theorem dL_law_569 : decode cL_law 569 = .ok (.aload_n 1, 1) := by decide +kernel
theorem dL_law_570 : decode cL_law 570 = .ok (.aload_n 0, 1) := by decide +kernel
theorem dL_law_571 : decode cL_law 571 = .ok (.iload_n 3, 1) := by decide +kernel
theorem dL_law_572 : decode cL_law 572 = .ok (.iconst 1, 1) := by decide +kernel
theorem dL_law_573 : decode cL_law 573 = .ok (.iadd, 1) := by decide +kernel
theorem dL_law_574 : decode cL_law 574 = .ok (.iaload, 1) := by decide +kernel
theorem dL_law_575 : decode cL_law 575 = .ok (.invokevirtual 93, 3) := by decide +kernel
theorem dL_law_578 : decode cL_law 578 = .ok (.aload_n 2, 1) := by decide +kernel
theorem dL_law_579 : decode cL_law 579 = .ok (.aload_n 0, 1) := by decide +kernel
theorem dL_law_580 : decode cL_law 580 = .ok (.iload_n 3, 1) := by decide +kernel
theorem dL_law_581 : decode cL_law 581 = .ok (.iconst 1, 1) := by decide +kernel
theorem dL_law_582 : decode cL_law 582 = .ok (.iadd, 1) := by decide +kernel
theorem dL_law_583 : decode cL_law 583 = .ok (.iaload, 1) := by decide +kernel
theorem dL_law_584 : decode cL_law 584 = .ok (.invokevirtual 96, 3) := by decide +kernel
theorem dL_law_587 : decode cL_law 587 = .ok (.if_icmp .eq 19, 3) := by decide +kernel
theorem dL_law_590 : decode cL_law 590 = .ok (.iconst 0, 1) := by decide +kernel
theorem dL_law_591 : decode cL_law 591 = .ok (.ireturn, 1) := by decide +kernel
theorem dL_law_592 : decode cL_law 592 = .ok (.aload_n 1, 1) := by decide +kernel
theorem dL_law_593 : decode cL_law 593 = .ok (.invokevirtual 97, 3) := by decide +kernel
theorem dL_law_596 : decode cL_law 596 = .ok (.aload_n 2, 1) := by decide +kernel
theorem dL_law_597 : decode cL_law 597 = .ok (.invokevirtual 101, 3) := by decide +kernel
theorem dL_law_600 : decode cL_law 600 = .ok (.lcmp, 1) := by decide +kernel
theorem dL_law_601 : decode cL_law 601 = .ok (.ifCond .eq 5, 3) := by decide +kernel
theorem dL_law_604 : decode cL_law 604 = .ok (.iconst 0, 1) := by decide +kernel
theorem dL_law_605 : decode cL_law 605 = .ok (.ireturn, 1) := by decide +kernel
theorem dL_law_606 : decode cL_law 606 = .ok (.iinc 3 4, 3) := by decide +kernel
theorem dL_law_609 : decode cL_law 609 = .ok (.goto (-591), 3) := by decide +kernel
theorem dL_law_612 : decode cL_law 612 = .ok (.iconst 1, 1) := by decide +kernel
theorem dL_law_613 : decode cL_law 613 = .ok (.ireturn, 1) := by decide +kernel
end
section
/-! ===== the tables' good words, each by its place ===== -/
def wsA : List Cond := lw_tbl.filter goodWord
theorem inA {w : Cond} (h : w ∈ lw_tbl) (hg : goodWord w = true) : w ∈ wsA := List.mem_filter.mpr ⟨h, hg⟩
theorem tb1 {w : Cond} (h : w ∈ tables_1_1) : w ∈ lw_tbl := List.mem_append_right _ (List.mem_append_left _ h)
theorem tb2 {w : Cond} (h : w ∈ tables_1_2) : w ∈ lw_tbl := List.mem_append_right _ (List.mem_append_right _ (List.mem_append_left _ h))
theorem tb3 {w : Cond} (h : w ∈ tables_1_3) : w ∈ lw_tbl := List.mem_append_right _ (List.mem_append_right _ (List.mem_append_right _ (List.mem_append_left _ h)))
theorem tb4 {w : Cond} (h : w ∈ tables_1_4) : w ∈ lw_tbl := List.mem_append_right _ (List.mem_append_right _ (List.mem_append_right _ (List.mem_append_right _ h)))
theorem tbs {q : MethodName × Nat} (h : q ∈ lw_privs) : Cond.selects q.1.cls q.1 q.1 ∈ lw_tbl := List.mem_append_left _ (List.mem_map.mpr ⟨q, h, rfl⟩)
theorem mN_L : Cond.initialized RL ∈ wsA := inA (tb1 (List.mem_of_getElem? (i := 0) rfl)) rfl
theorem mN_X5 : Cond.initialized RX5 ∈ wsA := inA (tb1 (List.mem_of_getElem? (i := 1) rfl)) rfl
theorem mN_X1 : Cond.initialized RX1 ∈ wsA := inA (tb1 (List.mem_of_getElem? (i := 2) rfl)) rfl
theorem mN_X0 : Cond.initialized RX0 ∈ wsA := inA (tb1 (List.mem_of_getElem? (i := 3) rfl)) rfl
theorem mN_X2 : Cond.initialized RX2 ∈ wsA := inA (tb1 (List.mem_of_getElem? (i := 4) rfl)) rfl
theorem mN_X4 : Cond.initialized RX4 ∈ wsA := inA (tb1 (List.mem_of_getElem? (i := 5) rfl)) rfl
theorem mN_X3 : Cond.initialized RX3 ∈ wsA := inA (tb1 (List.mem_of_getElem? (i := 6) rfl)) rfl
theorem mN_X6 : Cond.initialized RX6 ∈ wsA := inA (tb1 (List.mem_of_getElem? (i := 7) rfl)) rfl
theorem mN_J0 : Cond.initialized RJ0 ∈ wsA := inA (tb1 (List.mem_of_getElem? (i := 8) rfl)) rfl
theorem mN_J1 : Cond.initialized RJ1 ∈ wsA := inA (tb1 (List.mem_of_getElem? (i := 9) rfl)) rfl
theorem mN_J9 : Cond.initialized RJ9 ∈ wsA := inA (tb1 (List.mem_of_getElem? (i := 10) rfl)) rfl
theorem mN_J2 : Cond.initialized RJ2 ∈ wsA := inA (tb1 (List.mem_of_getElem? (i := 11) rfl)) rfl
theorem mN_J3 : Cond.initialized RJ3 ∈ wsA := inA (tb1 (List.mem_of_getElem? (i := 12) rfl)) rfl
theorem mN_J11 : Cond.initialized RJ11 ∈ wsA := inA (tb1 (List.mem_of_getElem? (i := 13) rfl)) rfl
theorem mN_J6 : Cond.initialized RJ6 ∈ wsA := inA (tb1 (List.mem_of_getElem? (i := 14) rfl)) rfl
theorem mN_J10 : Cond.initialized RJ10 ∈ wsA := inA (tb1 (List.mem_of_getElem? (i := 15) rfl)) rfl
theorem mQ_L_7 : Cond.classLink RL 7 RX5 ∈ wsA := inA (tb1 (List.mem_of_getElem? (i := 16) rfl)) rfl
theorem mB_X5 : Cond.instantiable RX5 8 ∈ wsA := inA (tb1 (List.mem_of_getElem? (i := 17) rfl)) rfl
theorem mL_L_9 : Cond.methodLink RL 9 yX5_init ∈ wsA := inA (tb1 (List.mem_of_getElem? (i := 18) rfl)) rfl
theorem mI_X5_init : Cond.instanceMethod yX5_init ∈ wsA := inA (tb1 (List.mem_of_getElem? (i := 19) rfl)) rfl
theorem mC_X5_init : Cond.code yX5_init cX5_init 1 none ∈ wsA := inA (tb1 (List.mem_of_getElem? (i := 20) rfl)) rfl
theorem mL_X5_1 : Cond.methodLink RX5 1 objectInit ∈ wsA := inA (tb1 (List.mem_of_getElem? (i := 21) rfl)) rfl
theorem mI_objectInit : Cond.instanceMethod objectInit ∈ wsA := inA (tb1 (List.mem_of_getElem? (i := 22) rfl)) rfl
theorem mC_objectInit : Cond.code objectInit ⟨#[0xb1]⟩ 1 none ∈ wsA := inA (tb1 (List.mem_of_getElem? (i := 23) rfl)) rfl
theorem mQ_X5_7 : Cond.classLink RX5 7 RX1 ∈ wsA := inA (tb1 (List.mem_of_getElem? (i := 24) rfl)) rfl
theorem mB_X1 : Cond.instantiable RX1 2 ∈ wsA := inA (tb1 (List.mem_of_getElem? (i := 25) rfl)) rfl
theorem mL_X5_9 : Cond.methodLink RX5 9 yX1_init ∈ wsA := inA (tb1 (List.mem_of_getElem? (i := 26) rfl)) rfl
theorem mI_X1_init : Cond.instanceMethod yX1_init ∈ wsA := inA (tb1 (List.mem_of_getElem? (i := 27) rfl)) rfl
theorem mC_X1_init : Cond.code yX1_init cX1_init 1 none ∈ wsA := inA (tb1 (List.mem_of_getElem? (i := 28) rfl)) rfl
theorem mL_X1_3 : Cond.methodLink RX1 3 objectInit ∈ wsA := inA (tb1 (List.mem_of_getElem? (i := 29) rfl)) rfl
theorem mF_X1_9 : Cond.fieldLink RX1 9 "DugBySaid$Page" "codes" "[I" ∈ wsA := inA (tb1 (List.mem_of_getElem? (i := 30) rfl)) rfl
theorem mF_X1_15 : Cond.fieldLink RX1 15 "DugBySaid$Page" "length" "I" ∈ wsA := inA (tb1 (List.mem_of_getElem? (i := 31) rfl)) rfl
theorem mA_int : Cond.arrayClass .int ∈ wsA := inA (tb1 (List.mem_of_getElem? (i := 38) rfl)) rfl
theorem mQ_X5_16 : Cond.classLink RX5 16 RX0 ∈ wsA := inA (tb1 (List.mem_of_getElem? (i := 39) rfl)) rfl
theorem mB_X0 : Cond.instantiable RX0 3 ∈ wsA := inA (tb1 (List.mem_of_getElem? (i := 40) rfl)) rfl
theorem mL_X5_18 : Cond.methodLink RX5 18 yX0_init ∈ wsA := inA (tb1 (List.mem_of_getElem? (i := 41) rfl)) rfl
theorem mI_X0_init : Cond.instanceMethod yX0_init ∈ wsA := inA (tb1 (List.mem_of_getElem? (i := 42) rfl)) rfl
theorem mC_X0_init : Cond.code yX0_init cX0_init 1 none ∈ wsA := inA (tb1 (List.mem_of_getElem? (i := 43) rfl)) rfl
theorem mL_X0_3 : Cond.methodLink RX0 3 objectInit ∈ wsA := inA (tb1 (List.mem_of_getElem? (i := 44) rfl)) rfl
theorem mF_X0_9 : Cond.fieldLink RX0 9 "DugBySaid$Hill" "kinds" "[I" ∈ wsA := inA (tb1 (List.mem_of_getElem? (i := 45) rfl)) rfl
theorem mF_X0_15 : Cond.fieldLink RX0 15 "DugBySaid$Hill" "people" "I" ∈ wsA := inA (tb1 (List.mem_of_getElem? (i := 46) rfl)) rfl
theorem mF_X0_19 : Cond.fieldLink RX0 19 "DugBySaid$Hill" "river" "I" ∈ wsA := inA (tb1 (List.mem_of_getElem? (i := 50) rfl)) rfl
theorem mQ_X5_23 : Cond.classLink RX5 23 RX2 ∈ wsA := inA (tb1 (List.mem_of_getElem? (i := 59) rfl)) rfl
theorem mB_X2 : Cond.instantiable RX2 10 ∈ wsA := inA (tb1 (List.mem_of_getElem? (i := 60) rfl)) rfl
theorem mL_X5_25 : Cond.methodLink RX5 25 yX2_init ∈ wsA := inA (tb1 (List.mem_of_getElem? (i := 61) rfl)) rfl
theorem mI_X2_init : Cond.instanceMethod yX2_init ∈ wsA := inA (tb1 (List.mem_of_getElem? (i := 62) rfl)) rfl
theorem mC_X2_init : Cond.code yX2_init cX2_init 1 none ∈ wsA := inA (tb1 (List.mem_of_getElem? (i := 63) rfl)) rfl
theorem mL_X2_3 : Cond.methodLink RX2 3 objectInit ∈ wsA := inA (tb1 (List.mem_of_getElem? (i := 64) rfl)) rfl
theorem mF_X2_9 : Cond.fieldLink RX2 9 "DugBySaid$Past" "nexts" "[I" ∈ wsA := inA (tb1 (List.mem_of_getElem? (i := 65) rfl)) rfl
theorem mF_X2_15 : Cond.fieldLink RX2 15 "DugBySaid$Past" "listeners" "[I" ∈ wsA := inA (tb1 (List.mem_of_getElem? (i := 66) rfl)) rfl
theorem mF_X2_18 : Cond.fieldLink RX2 18 "DugBySaid$Past" "heard" "[I" ∈ wsA := inA (tb1 (List.mem_of_getElem? (i := 67) rfl)) rfl
theorem mF_X2_21 : Cond.fieldLink RX2 21 "DugBySaid$Past" "last" "[I" ∈ wsA := inA (tb1 (List.mem_of_getElem? (i := 69) rfl)) rfl
theorem mF_X2_24 : Cond.fieldLink RX2 24 "DugBySaid$Past" "denied" "[I" ∈ wsA := inA (tb1 (List.mem_of_getElem? (i := 71) rfl)) rfl
theorem mF_X2_27 : Cond.fieldLink RX2 27 "DugBySaid$Past" "askedWhom" "[I" ∈ wsA := inA (tb1 (List.mem_of_getElem? (i := 73) rfl)) rfl
theorem mF_X2_30 : Cond.fieldLink RX2 30 "DugBySaid$Past" "askedDay" "[I" ∈ wsA := inA (tb1 (List.mem_of_getElem? (i := 75) rfl)) rfl
theorem mF_X2_33 : Cond.fieldLink RX2 33 "DugBySaid$Past" "asked" "I" ∈ wsA := inA (tb1 (List.mem_of_getElem? (i := 77) rfl)) rfl
theorem mF_X2_37 : Cond.fieldLink RX2 37 "DugBySaid$Past" "days" "I" ∈ wsA := inA (tb1 (List.mem_of_getElem? (i := 80) rfl)) rfl
theorem mF_X2_40 : Cond.fieldLink RX2 40 "DugBySaid$Past" "changes" "I" ∈ wsA := inA (tb1 (List.mem_of_getElem? (i := 82) rfl)) rfl
theorem mQ_X5_33 : Cond.classLink RX5 33 RX4 ∈ wsA := inA (tb1 (List.mem_of_getElem? (i := 105) rfl)) rfl
theorem mB_X4 : Cond.instantiable RX4 2 ∈ wsA := inA (tb1 (List.mem_of_getElem? (i := 106) rfl)) rfl
theorem mL_X5_35 : Cond.methodLink RX5 35 yX4_init ∈ wsA := inA (tb1 (List.mem_of_getElem? (i := 107) rfl)) rfl
theorem mI_X4_init : Cond.instanceMethod yX4_init ∈ wsA := inA (tb1 (List.mem_of_getElem? (i := 108) rfl)) rfl
theorem mC_X4_init : Cond.code yX4_init cX4_init 3 none ∈ wsA := inA (tb1 (List.mem_of_getElem? (i := 109) rfl)) rfl
theorem mL_X4_3 : Cond.methodLink RX4 3 objectInit ∈ wsA := inA (tb1 (List.mem_of_getElem? (i := 110) rfl)) rfl
theorem mF_X4_9 : Cond.fieldLink RX4 9 "DugBySaid$Talk" "hill" "LDugBySaid$Hill;" ∈ wsA := inA (tb1 (List.mem_of_getElem? (i := 111) rfl)) rfl
theorem mF_X4_15 : Cond.fieldLink RX4 15 "DugBySaid$Talk" "past" "LDugBySaid$Past;" ∈ wsA := inA (tb1 (List.mem_of_getElem? (i := 112) rfl)) rfl
theorem mQ_X5_42 : Cond.classLink RX5 42 RX3 ∈ wsA := inA (tb1 (List.mem_of_getElem? (i := 118) rfl)) rfl
theorem mB_X3 : Cond.instantiable RX3 4 ∈ wsA := inA (tb1 (List.mem_of_getElem? (i := 119) rfl)) rfl
theorem mL_X5_44 : Cond.methodLink RX5 44 yX3_init ∈ wsA := inA (tb1 (List.mem_of_getElem? (i := 120) rfl)) rfl
theorem mI_X3_init : Cond.instanceMethod yX3_init ∈ wsA := inA (tb1 (List.mem_of_getElem? (i := 121) rfl)) rfl
theorem mC_X3_init : Cond.code yX3_init cX3_init 4 none ∈ wsA := inA (tb1 (List.mem_of_getElem? (i := 122) rfl)) rfl
theorem mL_X3_3 : Cond.methodLink RX3 3 objectInit ∈ wsA := inA (tb1 (List.mem_of_getElem? (i := 123) rfl)) rfl
theorem mF_X3_9 : Cond.fieldLink RX3 9 "DugBySaid$Riddle" "hill" "LDugBySaid$Hill;" ∈ wsA := inA (tb1 (List.mem_of_getElem? (i := 124) rfl)) rfl
theorem mF_X3_15 : Cond.fieldLink RX3 15 "DugBySaid$Riddle" "past" "LDugBySaid$Past;" ∈ wsA := inA (tb1 (List.mem_of_getElem? (i := 125) rfl)) rfl
theorem mF_X3_19 : Cond.fieldLink RX3 19 "DugBySaid$Riddle" "talk" "LDugBySaid$Talk;" ∈ wsA := inA (tb1 (List.mem_of_getElem? (i := 126) rfl)) rfl
theorem mF_X3_23 : Cond.fieldLink RX3 23 "DugBySaid$Riddle" "left" "[I" ∈ wsA := inA (tb1 (List.mem_of_getElem? (i := 127) rfl)) rfl
theorem mF_X5_10 : Cond.fieldLink RX5 10 "DugBySaid" "page" "LDugBySaid$Page;" ∈ wsA := inA (tb1 (List.mem_of_getElem? (i := 137) rfl)) rfl
theorem mF_X5_19 : Cond.fieldLink RX5 19 "DugBySaid" "ground" "LDugBySaid$Hill;" ∈ wsA := inA (tb1 (List.mem_of_getElem? (i := 138) rfl)) rfl
theorem mF_X5_26 : Cond.fieldLink RX5 26 "DugBySaid" "now" "LDugBySaid$Past;" ∈ wsA := inA (tb1 (List.mem_of_getElem? (i := 139) rfl)) rfl
theorem mF_X5_30 : Cond.fieldLink RX5 30 "DugBySaid" "kept" "LDugBySaid$Past;" ∈ wsA := inA (tb1 (List.mem_of_getElem? (i := 140) rfl)) rfl
theorem mF_X5_38 : Cond.fieldLink RX5 38 "DugBySaid" "talk" "LDugBySaid$Talk;" ∈ wsA := inA (tb1 (List.mem_of_getElem? (i := 141) rfl)) rfl
theorem mF_X5_47 : Cond.fieldLink RX5 47 "DugBySaid" "riddle" "LDugBySaid$Riddle;" ∈ wsA := inA (tb1 (List.mem_of_getElem? (i := 142) rfl)) rfl
theorem mF_X5_51 : Cond.fieldLink RX5 51 "DugBySaid" "hasImage" "Z" ∈ wsA := inA (tb1 (List.mem_of_getElem? (i := 143) rfl)) rfl
theorem mF_X5_55 : Cond.fieldLink RX5 55 "DugBySaid" "readings" "I" ∈ wsA := inA (tb1 (List.mem_of_getElem? (i := 144) rfl)) rfl
theorem mL_L_13 : Cond.methodLink RL 13 yX5_letter ∈ wsA := inA (tb1 (List.mem_of_getElem? (i := 162) rfl)) rfl
theorem mI_X5_letter : Cond.instanceMethod yX5_letter ∈ wsA := inA (tb1 (List.mem_of_getElem? (i := 163) rfl)) rfl
theorem mS_X5_letter : Cond.selects RX5 yX5_letter yX5_letter ∈ wsA := inA (tb1 (List.mem_of_getElem? (i := 164) rfl)) rfl
theorem mC_X5_letter : Cond.code yX5_letter cX5_letter 2 (some .int) ∈ wsA := inA (tb1 (List.mem_of_getElem? (i := 165) rfl)) rfl
theorem mL_X5_59 : Cond.methodLink RX5 59 yX1_put ∈ wsA := inA (tb1 (List.mem_of_getElem? (i := 166) rfl)) rfl
theorem mI_X1_put : Cond.instanceMethod yX1_put ∈ wsA := inA (tb1 (List.mem_of_getElem? (i := 167) rfl)) rfl
theorem mS_X1_put : Cond.selects RX1 yX1_put yX1_put ∈ wsA := inA (tb1 (List.mem_of_getElem? (i := 168) rfl)) rfl
theorem mC_X1_put : Cond.code yX1_put cX1_put 2 (some .boolean) ∈ wsA := inA (tb1 (List.mem_of_getElem? (i := 169) rfl)) rfl
theorem mL_L_18 : Cond.methodLink RL 18 yX5_blank ∈ wsA := inA (tb1 (List.mem_of_getElem? (i := 170) rfl)) rfl
theorem mI_X5_blank : Cond.instanceMethod yX5_blank ∈ wsA := inA (tb1 (List.mem_of_getElem? (i := 171) rfl)) rfl
theorem mS_X5_blank : Cond.selects RX5 yX5_blank yX5_blank ∈ wsA := inA (tb1 (List.mem_of_getElem? (i := 172) rfl)) rfl
theorem mC_X5_blank : Cond.code yX5_blank cX5_blank 2 (some .int) ∈ wsA := inA (tb1 (List.mem_of_getElem? (i := 173) rfl)) rfl
theorem mL_X5_66 : Cond.methodLink RX5 66 yX1_clear ∈ wsA := inA (tb1 (List.mem_of_getElem? (i := 174) rfl)) rfl
theorem mI_X1_clear : Cond.instanceMethod yX1_clear ∈ wsA := inA (tb1 (List.mem_of_getElem? (i := 175) rfl)) rfl
theorem mS_X1_clear : Cond.selects RX1 yX1_clear yX1_clear ∈ wsA := inA (tb1 (List.mem_of_getElem? (i := 176) rfl)) rfl
theorem mC_X1_clear : Cond.code yX1_clear cX1_clear 1 none ∈ wsA := inA (tb1 (List.mem_of_getElem? (i := 177) rfl)) rfl
theorem mL_L_23 : Cond.methodLink RL 23 yX5_fault ∈ wsA := inA (tb1 (List.mem_of_getElem? (i := 178) rfl)) rfl
theorem mI_X5_fault : Cond.instanceMethod yX5_fault ∈ wsA := inA (tb1 (List.mem_of_getElem? (i := 179) rfl)) rfl
theorem mS_X5_fault : Cond.selects RX5 yX5_fault yX5_fault ∈ wsA := inA (tb1 (List.mem_of_getElem? (i := 180) rfl)) rfl
theorem mC_X5_fault : Cond.code yX5_fault cX5_fault 1 (some .int) ∈ wsA := inA (tb1 (List.mem_of_getElem? (i := 181) rfl)) rfl
theorem mL_X5_69 : Cond.methodLink RX5 69 yX1_firstFault ∈ wsA := inA (tb1 (List.mem_of_getElem? (i := 182) rfl)) rfl
theorem mI_X1_firstFault : Cond.instanceMethod yX1_firstFault ∈ wsA := inA (tb1 (List.mem_of_getElem? (i := 183) rfl)) rfl
theorem mS_X1_firstFault : Cond.selects RX1 yX1_firstFault yX1_firstFault ∈ wsA := inA (tb1 (List.mem_of_getElem? (i := 184) rfl)) rfl
theorem mC_X1_firstFault : Cond.code yX1_firstFault cX1_firstFault 2 (some .int) ∈ wsA := inA (tb1 (List.mem_of_getElem? (i := 185) rfl)) rfl
theorem mL_X1_19 : Cond.methodLink RX1 19 yX1_fits ∈ wsA := inA (tb1 (List.mem_of_getElem? (i := 186) rfl)) rfl
theorem mI_X1_fits : Cond.instanceMethod yX1_fits ∈ wsA := inA (tb1 (List.mem_of_getElem? (i := 188) rfl)) rfl
theorem mC_X1_fits : Cond.code yX1_fits cX1_fits 4 (some .boolean) ∈ wsA := inA (tb1 (List.mem_of_getElem? (i := 189) rfl)) rfl
theorem mL_X1_23 : Cond.methodLink RX1 23 yX1_codeAt ∈ wsA := inA (tb1 (List.mem_of_getElem? (i := 190) rfl)) rfl
theorem mI_X1_codeAt : Cond.instanceMethod yX1_codeAt ∈ wsA := inA (tb1 (List.mem_of_getElem? (i := 191) rfl)) rfl
theorem mS_X1_codeAt : Cond.selects RX1 yX1_codeAt yX1_codeAt ∈ wsA := inA (tb1 (List.mem_of_getElem? (i := 192) rfl)) rfl
theorem mC_X1_codeAt : Cond.code yX1_codeAt cX1_codeAt 2 (some .int) ∈ wsA := inA (tb1 (List.mem_of_getElem? (i := 193) rfl)) rfl
theorem mL_X1_31 : Cond.methodLink RX1 31 yX1_kindOfLetter ∈ wsA := inA (tb1 (List.mem_of_getElem? (i := 194) rfl)) rfl
theorem mT_X1_kindOfLetter : Cond.static yX1_kindOfLetter ∈ wsA := inA (tb1 (List.mem_of_getElem? (i := 195) rfl)) rfl
theorem mC_X1_kindOfLetter : Cond.code yX1_kindOfLetter cX1_kindOfLetter 1 (some .int) ∈ wsA := inA (tb1 (List.mem_of_getElem? (i := 196) rfl)) rfl
theorem mL_X1_36 : Cond.methodLink RX1 36 yJ0_indexOf_0f7a4 ∈ wsA := inA (tb1 (List.mem_of_getElem? (i := 198) rfl)) rfl
theorem mI_J0_indexOf_0f7a4 : Cond.instanceMethod yJ0_indexOf_0f7a4 ∈ wsA := inA (tb1 (List.mem_of_getElem? (i := 199) rfl)) rfl
theorem mS_J0_indexOf_0f7a4 : Cond.selects RJ0 yJ0_indexOf_0f7a4 yJ0_indexOf_0f7a4 ∈ wsA := inA (tb1 (List.mem_of_getElem? (i := 200) rfl)) rfl
theorem mC_J0_indexOf_0f7a4 : Cond.code yJ0_indexOf_0f7a4 cJ0_indexOf_0f7a4 2 (some .int) ∈ wsA := inA (tb1 (List.mem_of_getElem? (i := 201) rfl)) rfl
theorem mL_J0_633 : Cond.methodLink RJ0 633 yJ0_indexOf_7cf53 ∈ wsA := inA (tb1 (List.mem_of_getElem? (i := 202) rfl)) rfl
theorem mI_J0_indexOf_7cf53 : Cond.instanceMethod yJ0_indexOf_7cf53 ∈ wsA := inA (tb1 (List.mem_of_getElem? (i := 203) rfl)) rfl
theorem mS_J0_indexOf_7cf53 : Cond.selects RJ0 yJ0_indexOf_7cf53 yJ0_indexOf_7cf53 ∈ wsA := inA (tb1 (List.mem_of_getElem? (i := 204) rfl)) rfl
theorem mC_J0_indexOf_7cf53 : Cond.code yJ0_indexOf_7cf53 cJ0_indexOf_7cf53 3 (some .int) ∈ wsA := inA (tb1 (List.mem_of_getElem? (i := 205) rfl)) rfl
theorem mL_J0_492 : Cond.methodLink RJ0 492 yJ0_isLatin1_aae02 ∈ wsA := inA (tb1 (List.mem_of_getElem? (i := 206) rfl)) rfl
theorem mI_J0_isLatin1_aae02 : Cond.instanceMethod yJ0_isLatin1_aae02 ∈ wsA := inA (tb1 (List.mem_of_getElem? (i := 207) rfl)) rfl
theorem mS_J0_isLatin1_aae02 : Cond.selects RJ0 yJ0_isLatin1_aae02 yJ0_isLatin1_aae02 ∈ wsA := inA (tb1 (List.mem_of_getElem? (i := 208) rfl)) rfl
theorem mC_J0_isLatin1_aae02 : Cond.code yJ0_isLatin1_aae02 cJ0_isLatin1_aae02 1 (some .boolean) ∈ wsA := inA (tb1 (List.mem_of_getElem? (i := 209) rfl)) rfl
theorem mF_J0_38 : Cond.fieldLink RJ0 38 "java/lang/String" "COMPACT_STRINGS" "Z" ∈ wsA := inA (tb1 (List.mem_of_getElem? (i := 210) rfl)) rfl
theorem mL_J0_505 : Cond.methodLink RJ0 505 yJ0_length_8abf5 ∈ wsA := inA (tb1 (List.mem_of_getElem? (i := 212) rfl)) rfl
theorem mI_J0_length_8abf5 : Cond.instanceMethod yJ0_length_8abf5 ∈ wsA := inA (tb1 (List.mem_of_getElem? (i := 213) rfl)) rfl
theorem mS_J0_length_8abf5 : Cond.selects RJ0 yJ0_length_8abf5 yJ0_length_8abf5 ∈ wsA := inA (tb1 (List.mem_of_getElem? (i := 214) rfl)) rfl
theorem mC_J0_length_8abf5 : Cond.code yJ0_length_8abf5 cJ0_length_8abf5 1 (some .int) ∈ wsA := inA (tb1 (List.mem_of_getElem? (i := 215) rfl)) rfl
theorem mL_J0_335 : Cond.methodLink RJ0 335 yJ0_coder_7d493 ∈ wsA := inA (tb1 (List.mem_of_getElem? (i := 216) rfl)) rfl
theorem mI_J0_coder_7d493 : Cond.instanceMethod yJ0_coder_7d493 ∈ wsA := inA (tb1 (List.mem_of_getElem? (i := 217) rfl)) rfl
theorem mS_J0_coder_7d493 : Cond.selects RJ0 yJ0_coder_7d493 yJ0_coder_7d493 ∈ wsA := inA (tb1 (List.mem_of_getElem? (i := 218) rfl)) rfl
theorem mC_J0_coder_7d493 : Cond.code yJ0_coder_7d493 cJ0_coder_7d493 1 (some .byte) ∈ wsA := inA (tb1 (List.mem_of_getElem? (i := 219) rfl)) rfl
theorem mL_J0_637 : Cond.methodLink RJ0 637 yJ1_indexOf_4cfef ∈ wsA := inA (tb1 (List.mem_of_getElem? (i := 220) rfl)) rfl
theorem mT_J1_indexOf_4cfef : Cond.static yJ1_indexOf_4cfef ∈ wsA := inA (tb1 (List.mem_of_getElem? (i := 221) rfl)) rfl
theorem mC_J1_indexOf_4cfef : Cond.code yJ1_indexOf_4cfef cJ1_indexOf_4cfef 4 (some .int) ∈ wsA := inA (tb1 (List.mem_of_getElem? (i := 222) rfl)) rfl
theorem mL_J1_88 : Cond.methodLink RJ1 88 yJ1_canEncode_9a6ad ∈ wsA := inA (tb1 (List.mem_of_getElem? (i := 223) rfl)) rfl
theorem mT_J1_canEncode_9a6ad : Cond.static yJ1_canEncode_9a6ad ∈ wsA := inA (tb1 (List.mem_of_getElem? (i := 224) rfl)) rfl
theorem mC_J1_canEncode_9a6ad : Cond.code yJ1_canEncode_9a6ad cJ1_canEncode_9a6ad 1 (some .boolean) ∈ wsA := inA (tb1 (List.mem_of_getElem? (i := 225) rfl)) rfl
theorem mL_J1_92 : Cond.methodLink RJ1 92 Lib.Math.max.name ∈ wsA := inA (tb1 (List.mem_of_getElem? (i := 226) rfl)) rfl
theorem mT_Lib_Math_max_name : Cond.static Lib.Math.max.name ∈ wsA := inA (tb1 (List.mem_of_getElem? (i := 227) rfl)) rfl
theorem mC_Lib_Math_max_name : Cond.code Lib.Math.max.name Lib.Math.max.code 2 (some .int) ∈ wsA := inA (tb1 (List.mem_of_getElem? (i := 228) rfl)) rfl
theorem mL_J1_38 : Cond.methodLink RJ1 38 Lib.Math.min.name ∈ wsA := inA (tb1 (List.mem_of_getElem? (i := 229) rfl)) rfl
theorem mT_Lib_Math_min_name : Cond.static Lib.Math.min.name ∈ wsA := inA (tb1 (List.mem_of_getElem? (i := 230) rfl)) rfl
theorem mC_Lib_Math_min_name : Cond.code Lib.Math.min.name Lib.Math.min.code 2 (some .int) ∈ wsA := inA (tb1 (List.mem_of_getElem? (i := 231) rfl)) rfl
theorem mL_J1_95 : Cond.methodLink RJ1 95 yJ1_indexOfChar_4cfef ∈ wsA := inA (tb1 (List.mem_of_getElem? (i := 232) rfl)) rfl
theorem mT_J1_indexOfChar_4cfef : Cond.static yJ1_indexOfChar_4cfef ∈ wsA := inA (tb1 (List.mem_of_getElem? (i := 233) rfl)) rfl
theorem mC_J1_indexOfChar_4cfef : Cond.code yJ1_indexOfChar_4cfef cJ1_indexOfChar_4cfef 6 (some .int) ∈ wsA := inA (tb1 (List.mem_of_getElem? (i := 234) rfl)) rfl
theorem mL_J0_640 : Cond.methodLink RJ0 640 yJ2_indexOf_4cfef ∈ wsA := inA (tb1 (List.mem_of_getElem? (i := 235) rfl)) rfl
theorem mT_J2_indexOf_4cfef : Cond.static yJ2_indexOf_4cfef ∈ wsA := inA (tb1 (List.mem_of_getElem? (i := 236) rfl)) rfl
theorem mC_J2_indexOf_4cfef : Cond.code yJ2_indexOf_4cfef cJ2_indexOf_4cfef 4 (some .int) ∈ wsA := inA (tb1 (List.mem_of_getElem? (i := 237) rfl)) rfl
theorem mL_J2_224 : Cond.methodLink RJ2 224 Lib.Math.max.name ∈ wsA := inA (tb1 (List.mem_of_getElem? (i := 238) rfl)) rfl
theorem mL_J2_183 : Cond.methodLink RJ2 183 Lib.Math.min.name ∈ wsA := inA (tb1 (List.mem_of_getElem? (i := 239) rfl)) rfl
theorem mK_J2_227 : Cond.constant RJ2 227 (65536) ∈ wsA := inA (tb2 (List.mem_of_getElem? (i := 0) rfl)) rfl
theorem mL_J2_228 : Cond.methodLink RJ2 228 yJ2_indexOfChar_4cfef ∈ wsA := inA (tb2 (List.mem_of_getElem? (i := 1) rfl)) rfl
theorem mT_J2_indexOfChar_4cfef : Cond.static yJ2_indexOfChar_4cfef ∈ wsA := inA (tb2 (List.mem_of_getElem? (i := 2) rfl)) rfl
theorem mC_J2_indexOfChar_4cfef : Cond.code yJ2_indexOfChar_4cfef cJ2_indexOfChar_4cfef 4 (some .int) ∈ wsA := inA (tb2 (List.mem_of_getElem? (i := 3) rfl)) rfl
theorem mL_J2_96 : Cond.methodLink RJ2 96 yJ2_checkBoundsBeginEnd_d044e ∈ wsA := inA (tb2 (List.mem_of_getElem? (i := 4) rfl)) rfl
theorem mT_J2_checkBoundsBeginEnd_d044e : Cond.static yJ2_checkBoundsBeginEnd_d044e ∈ wsA := inA (tb2 (List.mem_of_getElem? (i := 5) rfl)) rfl
theorem mC_J2_checkBoundsBeginEnd_d044e : Cond.code yJ2_checkBoundsBeginEnd_d044e cJ2_checkBoundsBeginEnd_d044e 3 none ∈ wsA := inA (tb2 (List.mem_of_getElem? (i := 6) rfl)) rfl
theorem mL_J2_48 : Cond.methodLink RJ2 48 yJ2_length_9d52b ∈ wsA := inA (tb2 (List.mem_of_getElem? (i := 7) rfl)) rfl
theorem mT_J2_length_9d52b : Cond.static yJ2_length_9d52b ∈ wsA := inA (tb2 (List.mem_of_getElem? (i := 8) rfl)) rfl
theorem mC_J2_length_9d52b : Cond.code yJ2_length_9d52b cJ2_length_9d52b 1 (some .int) ∈ wsA := inA (tb2 (List.mem_of_getElem? (i := 9) rfl)) rfl
theorem mL_J2_241 : Cond.methodLink RJ2 241 yJ0_checkBoundsBeginEnd_23922 ∈ wsA := inA (tb2 (List.mem_of_getElem? (i := 10) rfl)) rfl
theorem mT_J0_checkBoundsBeginEnd_23922 : Cond.static yJ0_checkBoundsBeginEnd_23922 ∈ wsA := inA (tb2 (List.mem_of_getElem? (i := 11) rfl)) rfl
theorem mC_J0_checkBoundsBeginEnd_23922 : Cond.code yJ0_checkBoundsBeginEnd_23922 cJ0_checkBoundsBeginEnd_23922 3 none ∈ wsA := inA (tb2 (List.mem_of_getElem? (i := 12) rfl)) rfl
theorem mF_J0_1053 : Cond.fieldLink RJ0 1053 "jdk/internal/util/Preconditions" "SIOOBE_FORMATTER" "Ljava/util/function/BiFunction;" ∈ wsA := inA (tb2 (List.mem_of_getElem? (i := 13) rfl)) rfl
theorem mL_J0_1062 : Cond.methodLink RJ0 1062 yJ3_checkFromToIndex_8c36e ∈ wsA := inA (tb2 (List.mem_of_getElem? (i := 15) rfl)) rfl
theorem mT_J3_checkFromToIndex_8c36e : Cond.static yJ3_checkFromToIndex_8c36e ∈ wsA := inA (tb2 (List.mem_of_getElem? (i := 16) rfl)) rfl
theorem mC_J3_checkFromToIndex_8c36e : Cond.code yJ3_checkFromToIndex_8c36e cJ3_checkFromToIndex_8c36e 4 (some .int) ∈ wsA := inA (tb2 (List.mem_of_getElem? (i := 17) rfl)) rfl
theorem mL_J2_244 : Cond.methodLink RJ2 244 yJ2_indexOfCharUnsafe_4cfef ∈ wsA := inA (tb2 (List.mem_of_getElem? (i := 18) rfl)) rfl
theorem mT_J2_indexOfCharUnsafe_4cfef : Cond.static yJ2_indexOfCharUnsafe_4cfef ∈ wsA := inA (tb2 (List.mem_of_getElem? (i := 19) rfl)) rfl
theorem mC_J2_indexOfCharUnsafe_4cfef : Cond.code yJ2_indexOfCharUnsafe_4cfef cJ2_indexOfCharUnsafe_4cfef 5 (some .int) ∈ wsA := inA (tb2 (List.mem_of_getElem? (i := 20) rfl)) rfl
theorem mL_J2_71 : Cond.methodLink RJ2 71 yJ2_getChar_3b067 ∈ wsA := inA (tb2 (List.mem_of_getElem? (i := 21) rfl)) rfl
theorem mT_J2_getChar_3b067 : Cond.static yJ2_getChar_3b067 ∈ wsA := inA (tb2 (List.mem_of_getElem? (i := 22) rfl)) rfl
theorem mC_J2_getChar_3b067 : Cond.code yJ2_getChar_3b067 cJ2_getChar_3b067 2 (some .char) ∈ wsA := inA (tb2 (List.mem_of_getElem? (i := 23) rfl)) rfl
theorem mF_J2_44 : Cond.fieldLink RJ2 44 "java/lang/StringUTF16" "$assertionsDisabled" "Z" ∈ wsA := inA (tb2 (List.mem_of_getElem? (i := 24) rfl)) rfl
theorem mF_J2_59 : Cond.fieldLink RJ2 59 "java/lang/StringUTF16" "HI_BYTE_SHIFT" "I" ∈ wsA := inA (tb2 (List.mem_of_getElem? (i := 26) rfl)) rfl
theorem mF_J2_63 : Cond.fieldLink RJ2 63 "java/lang/StringUTF16" "LO_BYTE_SHIFT" "I" ∈ wsA := inA (tb2 (List.mem_of_getElem? (i := 28) rfl)) rfl
theorem mL_J2_232 : Cond.methodLink RJ2 232 yJ2_indexOfSupplementary_4cfef ∈ wsA := inA (tb2 (List.mem_of_getElem? (i := 30) rfl)) rfl
theorem mT_J2_indexOfSupplementary_4cfef : Cond.static yJ2_indexOfSupplementary_4cfef ∈ wsA := inA (tb2 (List.mem_of_getElem? (i := 31) rfl)) rfl
theorem mC_J2_indexOfSupplementary_4cfef : Cond.code yJ2_indexOfSupplementary_4cfef cJ2_indexOfSupplementary_4cfef 7 (some .int) ∈ wsA := inA (tb2 (List.mem_of_getElem? (i := 32) rfl)) rfl
theorem mL_J2_164 : Cond.methodLink RJ2 164 yJ11_isValidCodePoint_9a6ad ∈ wsA := inA (tb2 (List.mem_of_getElem? (i := 33) rfl)) rfl
theorem mT_J11_isValidCodePoint_9a6ad : Cond.static yJ11_isValidCodePoint_9a6ad ∈ wsA := inA (tb2 (List.mem_of_getElem? (i := 34) rfl)) rfl
theorem mC_J11_isValidCodePoint_9a6ad : Cond.code yJ11_isValidCodePoint_9a6ad cJ11_isValidCodePoint_9a6ad 2 (some .boolean) ∈ wsA := inA (tb2 (List.mem_of_getElem? (i := 35) rfl)) rfl
theorem mL_J2_157 : Cond.methodLink RJ2 157 yJ11_highSurrogate_5068e ∈ wsA := inA (tb2 (List.mem_of_getElem? (i := 36) rfl)) rfl
theorem mT_J11_highSurrogate_5068e : Cond.static yJ11_highSurrogate_5068e ∈ wsA := inA (tb2 (List.mem_of_getElem? (i := 37) rfl)) rfl
theorem mC_J11_highSurrogate_5068e : Cond.code yJ11_highSurrogate_5068e cJ11_highSurrogate_5068e 1 (some .char) ∈ wsA := inA (tb2 (List.mem_of_getElem? (i := 38) rfl)) rfl
theorem mK_J11_110 : Cond.constant RJ11 110 (55232) ∈ wsA := inA (tb2 (List.mem_of_getElem? (i := 39) rfl)) rfl
theorem mL_J2_161 : Cond.methodLink RJ2 161 yJ11_lowSurrogate_5068e ∈ wsA := inA (tb2 (List.mem_of_getElem? (i := 40) rfl)) rfl
theorem mT_J11_lowSurrogate_5068e : Cond.static yJ11_lowSurrogate_5068e ∈ wsA := inA (tb2 (List.mem_of_getElem? (i := 41) rfl)) rfl
theorem mC_J11_lowSurrogate_5068e : Cond.code yJ11_lowSurrogate_5068e cJ11_lowSurrogate_5068e 1 (some .char) ∈ wsA := inA (tb2 (List.mem_of_getElem? (i := 42) rfl)) rfl
theorem mK_J11_76 : Cond.constant RJ11 76 (56320) ∈ wsA := inA (tb2 (List.mem_of_getElem? (i := 43) rfl)) rfl
theorem mA_byte : Cond.arrayClass .byte ∈ wsA := inA (tb2 (List.mem_of_getElem? (i := 44) rfl)) rfl
theorem mL_L_27 : Cond.methodLink RL 27 yX5_hill ∈ wsA := inA (tb2 (List.mem_of_getElem? (i := 45) rfl)) rfl
theorem mI_X5_hill : Cond.instanceMethod yX5_hill ∈ wsA := inA (tb2 (List.mem_of_getElem? (i := 46) rfl)) rfl
theorem mS_X5_hill : Cond.selects RX5 yX5_hill yX5_hill ∈ wsA := inA (tb2 (List.mem_of_getElem? (i := 47) rfl)) rfl
theorem mC_X5_hill : Cond.code yX5_hill cX5_hill 3 (some .int) ∈ wsA := inA (tb2 (List.mem_of_getElem? (i := 48) rfl)) rfl
theorem mL_X5_73 : Cond.methodLink RX5 73 yX1_isHill ∈ wsA := inA (tb2 (List.mem_of_getElem? (i := 49) rfl)) rfl
theorem mI_X1_isHill : Cond.instanceMethod yX1_isHill ∈ wsA := inA (tb2 (List.mem_of_getElem? (i := 50) rfl)) rfl
theorem mS_X1_isHill : Cond.selects RX1 yX1_isHill yX1_isHill ∈ wsA := inA (tb2 (List.mem_of_getElem? (i := 51) rfl)) rfl
theorem mC_X1_isHill : Cond.code yX1_isHill cX1_isHill 1 (some .boolean) ∈ wsA := inA (tb2 (List.mem_of_getElem? (i := 52) rfl)) rfl
theorem mL_X1_27 : Cond.methodLink RX1 27 yX1_firstFault ∈ wsA := inA (tb2 (List.mem_of_getElem? (i := 53) rfl)) rfl
theorem mL_X5_77 : Cond.methodLink RX5 77 yX0_read ∈ wsA := inA (tb2 (List.mem_of_getElem? (i := 54) rfl)) rfl
theorem mI_X0_read : Cond.instanceMethod yX0_read ∈ wsA := inA (tb2 (List.mem_of_getElem? (i := 55) rfl)) rfl
theorem mS_X0_read : Cond.selects RX0 yX0_read yX0_read ∈ wsA := inA (tb2 (List.mem_of_getElem? (i := 56) rfl)) rfl
theorem mC_X0_read : Cond.code yX0_read cX0_read 3 none ∈ wsA := inA (tb2 (List.mem_of_getElem? (i := 57) rfl)) rfl
theorem mL_X0_22 : Cond.methodLink RX0 22 yX1_peopleWritten ∈ wsA := inA (tb2 (List.mem_of_getElem? (i := 58) rfl)) rfl
theorem mI_X1_peopleWritten : Cond.instanceMethod yX1_peopleWritten ∈ wsA := inA (tb2 (List.mem_of_getElem? (i := 59) rfl)) rfl
theorem mS_X1_peopleWritten : Cond.selects RX1 yX1_peopleWritten yX1_peopleWritten ∈ wsA := inA (tb2 (List.mem_of_getElem? (i := 60) rfl)) rfl
theorem mC_X1_peopleWritten : Cond.code yX1_peopleWritten cX1_peopleWritten 1 (some .int) ∈ wsA := inA (tb2 (List.mem_of_getElem? (i := 61) rfl)) rfl
theorem mL_X0_28 : Cond.methodLink RX0 28 Lib.Math.min.name ∈ wsA := inA (tb2 (List.mem_of_getElem? (i := 62) rfl)) rfl
theorem mL_X0_34 : Cond.methodLink RX0 34 yX1_riverWritten ∈ wsA := inA (tb2 (List.mem_of_getElem? (i := 63) rfl)) rfl
theorem mI_X1_riverWritten : Cond.instanceMethod yX1_riverWritten ∈ wsA := inA (tb2 (List.mem_of_getElem? (i := 64) rfl)) rfl
theorem mS_X1_riverWritten : Cond.selects RX1 yX1_riverWritten yX1_riverWritten ∈ wsA := inA (tb2 (List.mem_of_getElem? (i := 65) rfl)) rfl
theorem mC_X1_riverWritten : Cond.code yX1_riverWritten cX1_riverWritten 1 (some .int) ∈ wsA := inA (tb2 (List.mem_of_getElem? (i := 66) rfl)) rfl
theorem mL_X0_37 : Cond.methodLink RX0 37 yX1_kindWritten ∈ wsA := inA (tb2 (List.mem_of_getElem? (i := 67) rfl)) rfl
theorem mI_X1_kindWritten : Cond.instanceMethod yX1_kindWritten ∈ wsA := inA (tb2 (List.mem_of_getElem? (i := 68) rfl)) rfl
theorem mS_X1_kindWritten : Cond.selects RX1 yX1_kindWritten yX1_kindWritten ∈ wsA := inA (tb2 (List.mem_of_getElem? (i := 69) rfl)) rfl
theorem mC_X1_kindWritten : Cond.code yX1_kindWritten cX1_kindWritten 2 (some .int) ∈ wsA := inA (tb2 (List.mem_of_getElem? (i := 70) rfl)) rfl
theorem mL_X5_81 : Cond.methodLink RX5 81 yX2_begin ∈ wsA := inA (tb2 (List.mem_of_getElem? (i := 71) rfl)) rfl
theorem mI_X2_begin : Cond.instanceMethod yX2_begin ∈ wsA := inA (tb2 (List.mem_of_getElem? (i := 72) rfl)) rfl
theorem mS_X2_begin : Cond.selects RX2 yX2_begin yX2_begin ∈ wsA := inA (tb2 (List.mem_of_getElem? (i := 73) rfl)) rfl
theorem mC_X2_begin : Cond.code yX2_begin cX2_begin 2 none ∈ wsA := inA (tb2 (List.mem_of_getElem? (i := 74) rfl)) rfl
theorem mL_X2_43 : Cond.methodLink RX2 43 yX2_setNext ∈ wsA := inA (tb2 (List.mem_of_getElem? (i := 75) rfl)) rfl
theorem mI_X2_setNext : Cond.instanceMethod yX2_setNext ∈ wsA := inA (tb2 (List.mem_of_getElem? (i := 76) rfl)) rfl
theorem mS_X2_setNext : Cond.selects RX2 yX2_setNext yX2_setNext ∈ wsA := inA (tb2 (List.mem_of_getElem? (i := 77) rfl)) rfl
theorem mC_X2_setNext : Cond.code yX2_setNext cX2_setNext 4 none ∈ wsA := inA (tb2 (List.mem_of_getElem? (i := 78) rfl)) rfl
theorem mL_X5_87 : Cond.methodLink RX5 87 yX1_nextWritten ∈ wsA := inA (tb2 (List.mem_of_getElem? (i := 79) rfl)) rfl
theorem mI_X1_nextWritten : Cond.instanceMethod yX1_nextWritten ∈ wsA := inA (tb2 (List.mem_of_getElem? (i := 80) rfl)) rfl
theorem mS_X1_nextWritten : Cond.selects RX1 yX1_nextWritten yX1_nextWritten ∈ wsA := inA (tb2 (List.mem_of_getElem? (i := 81) rfl)) rfl
theorem mC_X1_nextWritten : Cond.code yX1_nextWritten cX1_nextWritten 2 (some .int) ∈ wsA := inA (tb2 (List.mem_of_getElem? (i := 82) rfl)) rfl
theorem mL_X5_91 : Cond.methodLink RX5 91 yX0_has ∈ wsA := inA (tb2 (List.mem_of_getElem? (i := 83) rfl)) rfl
theorem mI_X0_has : Cond.instanceMethod yX0_has ∈ wsA := inA (tb2 (List.mem_of_getElem? (i := 84) rfl)) rfl
theorem mS_X0_has : Cond.selects RX0 yX0_has yX0_has ∈ wsA := inA (tb2 (List.mem_of_getElem? (i := 85) rfl)) rfl
theorem mC_X0_has : Cond.code yX0_has cX0_has 2 (some .boolean) ∈ wsA := inA (tb2 (List.mem_of_getElem? (i := 86) rfl)) rfl
theorem mL_X5_94 : Cond.methodLink RX5 94 yX5_point ∈ wsA := inA (tb2 (List.mem_of_getElem? (i := 87) rfl)) rfl
theorem mI_X5_point : Cond.instanceMethod yX5_point ∈ wsA := inA (tb2 (List.mem_of_getElem? (i := 89) rfl)) rfl
theorem mC_X5_point : Cond.code yX5_point cX5_point 4 none ∈ wsA := inA (tb2 (List.mem_of_getElem? (i := 90) rfl)) rfl
theorem mL_X5_123 : Cond.methodLink RX5 123 yX0_listeners ∈ wsA := inA (tb2 (List.mem_of_getElem? (i := 91) rfl)) rfl
theorem mI_X0_listeners : Cond.instanceMethod yX0_listeners ∈ wsA := inA (tb2 (List.mem_of_getElem? (i := 92) rfl)) rfl
theorem mS_X0_listeners : Cond.selects RX0 yX0_listeners yX0_listeners ∈ wsA := inA (tb2 (List.mem_of_getElem? (i := 93) rfl)) rfl
theorem mC_X0_listeners : Cond.code yX0_listeners cX0_listeners 6 (some .int) ∈ wsA := inA (tb2 (List.mem_of_getElem? (i := 94) rfl)) rfl
theorem mL_X0_41 : Cond.methodLink RX0 41 yX0_kindOf ∈ wsA := inA (tb2 (List.mem_of_getElem? (i := 95) rfl)) rfl
theorem mI_X0_kindOf : Cond.instanceMethod yX0_kindOf ∈ wsA := inA (tb2 (List.mem_of_getElem? (i := 96) rfl)) rfl
theorem mS_X0_kindOf : Cond.selects RX0 yX0_kindOf yX0_kindOf ∈ wsA := inA (tb2 (List.mem_of_getElem? (i := 97) rfl)) rfl
theorem mC_X0_kindOf : Cond.code yX0_kindOf cX0_kindOf 2 (some .int) ∈ wsA := inA (tb2 (List.mem_of_getElem? (i := 98) rfl)) rfl
theorem mL_X0_44 : Cond.methodLink RX0 44 yX0_has ∈ wsA := inA (tb2 (List.mem_of_getElem? (i := 99) rfl)) rfl
theorem mT_X5_isOfKind : Cond.static yX5_isOfKind ∈ wsA := inA (tb2 (List.mem_of_getElem? (i := 101) rfl)) rfl
theorem mC_X5_isOfKind : Cond.code yX5_isOfKind cX5_isOfKind 2 (some .boolean) ∈ wsA := inA (tb2 (List.mem_of_getElem? (i := 102) rfl)) rfl
theorem mL_X5_127 : Cond.methodLink RX5 127 yX2_setNext ∈ wsA := inA (tb2 (List.mem_of_getElem? (i := 103) rfl)) rfl
theorem mL_L_31 : Cond.methodLink RL 31 yX5_person ∈ wsA := inA (tb2 (List.mem_of_getElem? (i := 104) rfl)) rfl
theorem mI_X5_person : Cond.instanceMethod yX5_person ∈ wsA := inA (tb2 (List.mem_of_getElem? (i := 105) rfl)) rfl
theorem mS_X5_person : Cond.selects RX5 yX5_person yX5_person ∈ wsA := inA (tb2 (List.mem_of_getElem? (i := 106) rfl)) rfl
theorem mC_X5_person : Cond.code yX5_person cX5_person 3 (some .int) ∈ wsA := inA (tb2 (List.mem_of_getElem? (i := 107) rfl)) rfl
theorem mL_X5_98 : Cond.methodLink RX5 98 yX0_kindOf ∈ wsA := inA (tb2 (List.mem_of_getElem? (i := 108) rfl)) rfl
theorem mL_X5_101 : Cond.methodLink RX5 101 yX2_nextOf ∈ wsA := inA (tb2 (List.mem_of_getElem? (i := 109) rfl)) rfl
theorem mI_X2_nextOf : Cond.instanceMethod yX2_nextOf ∈ wsA := inA (tb2 (List.mem_of_getElem? (i := 110) rfl)) rfl
theorem mS_X2_nextOf : Cond.selects RX2 yX2_nextOf yX2_nextOf ∈ wsA := inA (tb2 (List.mem_of_getElem? (i := 111) rfl)) rfl
theorem mC_X2_nextOf : Cond.code yX2_nextOf cX2_nextOf 2 (some .int) ∈ wsA := inA (tb2 (List.mem_of_getElem? (i := 112) rfl)) rfl
theorem mL_X5_104 : Cond.methodLink RX5 104 yX2_listenersOf ∈ wsA := inA (tb2 (List.mem_of_getElem? (i := 113) rfl)) rfl
theorem mI_X2_listenersOf : Cond.instanceMethod yX2_listenersOf ∈ wsA := inA (tb2 (List.mem_of_getElem? (i := 114) rfl)) rfl
theorem mS_X2_listenersOf : Cond.selects RX2 yX2_listenersOf yX2_listenersOf ∈ wsA := inA (tb2 (List.mem_of_getElem? (i := 115) rfl)) rfl
theorem mC_X2_listenersOf : Cond.code yX2_listenersOf cX2_listenersOf 2 (some .int) ∈ wsA := inA (tb2 (List.mem_of_getElem? (i := 116) rfl)) rfl
theorem mL_X5_107 : Cond.methodLink RX5 107 yX2_tunnelsHeardBy ∈ wsA := inA (tb2 (List.mem_of_getElem? (i := 117) rfl)) rfl
theorem mI_X2_tunnelsHeardBy : Cond.instanceMethod yX2_tunnelsHeardBy ∈ wsA := inA (tb2 (List.mem_of_getElem? (i := 118) rfl)) rfl
theorem mS_X2_tunnelsHeardBy : Cond.selects RX2 yX2_tunnelsHeardBy yX2_tunnelsHeardBy ∈ wsA := inA (tb2 (List.mem_of_getElem? (i := 119) rfl)) rfl
theorem mC_X2_tunnelsHeardBy : Cond.code yX2_tunnelsHeardBy cX2_tunnelsHeardBy 4 (some .int) ∈ wsA := inA (tb2 (List.mem_of_getElem? (i := 120) rfl)) rfl
theorem mT_X5_isIn : Cond.static yX5_isIn ∈ wsA := inA (tb2 (List.mem_of_getElem? (i := 122) rfl)) rfl
theorem mC_X5_isIn : Cond.code yX5_isIn cX5_isIn 2 (some .boolean) ∈ wsA := inA (tb2 (List.mem_of_getElem? (i := 123) rfl)) rfl
theorem mL_X5_110 : Cond.methodLink RX5 110 yX4_ends ∈ wsA := inA (tb2 (List.mem_of_getElem? (i := 124) rfl)) rfl
theorem mI_X4_ends : Cond.instanceMethod yX4_ends ∈ wsA := inA (tb2 (List.mem_of_getElem? (i := 125) rfl)) rfl
theorem mS_X4_ends : Cond.selects RX4 yX4_ends yX4_ends ∈ wsA := inA (tb2 (List.mem_of_getElem? (i := 126) rfl)) rfl
theorem mC_X4_ends : Cond.code yX4_ends cX4_ends 2 (some .int) ∈ wsA := inA (tb2 (List.mem_of_getElem? (i := 127) rfl)) rfl
theorem mL_X4_35 : Cond.methodLink RX4 35 yX4_lengthInTheEnd ∈ wsA := inA (tb2 (List.mem_of_getElem? (i := 128) rfl)) rfl
theorem mI_X4_lengthInTheEnd : Cond.instanceMethod yX4_lengthInTheEnd ∈ wsA := inA (tb2 (List.mem_of_getElem? (i := 129) rfl)) rfl
theorem mS_X4_lengthInTheEnd : Cond.selects RX4 yX4_lengthInTheEnd yX4_lengthInTheEnd ∈ wsA := inA (tb2 (List.mem_of_getElem? (i := 130) rfl)) rfl
theorem mC_X4_lengthInTheEnd : Cond.code yX4_lengthInTheEnd cX4_lengthInTheEnd 7 (some .int) ∈ wsA := inA (tb2 (List.mem_of_getElem? (i := 131) rfl)) rfl
theorem mL_X4_39 : Cond.methodLink RX4 39 yX4_hearers ∈ wsA := inA (tb2 (List.mem_of_getElem? (i := 132) rfl)) rfl
theorem mI_X4_hearers : Cond.instanceMethod yX4_hearers ∈ wsA := inA (tb2 (List.mem_of_getElem? (i := 133) rfl)) rfl
theorem mS_X4_hearers : Cond.selects RX4 yX4_hearers yX4_hearers ∈ wsA := inA (tb2 (List.mem_of_getElem? (i := 134) rfl)) rfl
theorem mC_X4_hearers : Cond.code yX4_hearers cX4_hearers 5 (some .int) ∈ wsA := inA (tb2 (List.mem_of_getElem? (i := 135) rfl)) rfl
theorem mL_X4_29 : Cond.methodLink RX4 29 yX2_listenersOf ∈ wsA := inA (tb2 (List.mem_of_getElem? (i := 137) rfl)) rfl
theorem mL_X4_43 : Cond.methodLink RX4 43 yX0_length ∈ wsA := inA (tb2 (List.mem_of_getElem? (i := 138) rfl)) rfl
theorem mI_X0_length : Cond.instanceMethod yX0_length ∈ wsA := inA (tb2 (List.mem_of_getElem? (i := 139) rfl)) rfl
theorem mS_X0_length : Cond.selects RX0 yX0_length yX0_length ∈ wsA := inA (tb2 (List.mem_of_getElem? (i := 140) rfl)) rfl
theorem mC_X0_length : Cond.code yX0_length cX0_length 6 (some .int) ∈ wsA := inA (tb2 (List.mem_of_getElem? (i := 141) rfl)) rfl
theorem mL_X0_55 : Cond.methodLink RX0 55 yX0_yardsBy ∈ wsA := inA (tb2 (List.mem_of_getElem? (i := 143) rfl)) rfl
theorem mT_X0_yardsBy : Cond.static yX0_yardsBy ∈ wsA := inA (tb2 (List.mem_of_getElem? (i := 144) rfl)) rfl
theorem mC_X0_yardsBy : Cond.code yX0_yardsBy cX0_yardsBy 1 (some .int) ∈ wsA := inA (tb2 (List.mem_of_getElem? (i := 145) rfl)) rfl
theorem mL_X0_58 : Cond.methodLink RX0 58 Lib.Math.max.name ∈ wsA := inA (tb2 (List.mem_of_getElem? (i := 146) rfl)) rfl
theorem mL_X5_113 : Cond.methodLink RX5 113 yX4_lasts ∈ wsA := inA (tb2 (List.mem_of_getElem? (i := 147) rfl)) rfl
theorem mI_X4_lasts : Cond.instanceMethod yX4_lasts ∈ wsA := inA (tb2 (List.mem_of_getElem? (i := 148) rfl)) rfl
theorem mS_X4_lasts : Cond.selects RX4 yX4_lasts yX4_lasts ∈ wsA := inA (tb2 (List.mem_of_getElem? (i := 149) rfl)) rfl
theorem mC_X4_lasts : Cond.code yX4_lasts cX4_lasts 4 (some .int) ∈ wsA := inA (tb2 (List.mem_of_getElem? (i := 150) rfl)) rfl
theorem mL_X4_46 : Cond.methodLink RX4 46 yX4_dayHeard ∈ wsA := inA (tb2 (List.mem_of_getElem? (i := 151) rfl)) rfl
theorem mI_X4_dayHeard : Cond.instanceMethod yX4_dayHeard ∈ wsA := inA (tb2 (List.mem_of_getElem? (i := 152) rfl)) rfl
theorem mS_X4_dayHeard : Cond.selects RX4 yX4_dayHeard yX4_dayHeard ∈ wsA := inA (tb2 (List.mem_of_getElem? (i := 153) rfl)) rfl
theorem mC_X4_dayHeard : Cond.code yX4_dayHeard cX4_dayHeard 6 (some .int) ∈ wsA := inA (tb2 (List.mem_of_getElem? (i := 154) rfl)) rfl
theorem mL_X4_49 : Cond.methodLink RX4 49 Lib.Math.max.name ∈ wsA := inA (tb2 (List.mem_of_getElem? (i := 155) rfl)) rfl
theorem mL_L_36 : Cond.methodLink RL 36 yX5_as ∈ wsA := inA (tb2 (List.mem_of_getElem? (i := 156) rfl)) rfl
theorem mI_X5_as : Cond.instanceMethod yX5_as ∈ wsA := inA (tb2 (List.mem_of_getElem? (i := 157) rfl)) rfl
theorem mS_X5_as : Cond.selects RX5 yX5_as yX5_as ∈ wsA := inA (tb2 (List.mem_of_getElem? (i := 158) rfl)) rfl
theorem mC_X5_as : Cond.code yX5_as cX5_as 3 (some .int) ∈ wsA := inA (tb2 (List.mem_of_getElem? (i := 159) rfl)) rfl
theorem mL_X5_116 : Cond.methodLink RX5 116 yX5_isOfKind ∈ wsA := inA (tb2 (List.mem_of_getElem? (i := 160) rfl)) rfl
theorem mL_L_40 : Cond.methodLink RL 40 yX5_next ∈ wsA := inA (tb2 (List.mem_of_getElem? (i := 161) rfl)) rfl
theorem mI_X5_next : Cond.instanceMethod yX5_next ∈ wsA := inA (tb2 (List.mem_of_getElem? (i := 162) rfl)) rfl
theorem mS_X5_next : Cond.selects RX5 yX5_next yX5_next ∈ wsA := inA (tb2 (List.mem_of_getElem? (i := 163) rfl)) rfl
theorem mC_X5_next : Cond.code yX5_next cX5_next 4 (some .int) ∈ wsA := inA (tb2 (List.mem_of_getElem? (i := 164) rfl)) rfl
theorem mL_L_44 : Cond.methodLink RL 44 yX5_tell ∈ wsA := inA (tb2 (List.mem_of_getElem? (i := 165) rfl)) rfl
theorem mI_X5_tell : Cond.instanceMethod yX5_tell ∈ wsA := inA (tb2 (List.mem_of_getElem? (i := 166) rfl)) rfl
theorem mS_X5_tell : Cond.selects RX5 yX5_tell yX5_tell ∈ wsA := inA (tb2 (List.mem_of_getElem? (i := 167) rfl)) rfl
theorem mC_X5_tell : Cond.code yX5_tell cX5_tell 4 (some .int) ∈ wsA := inA (tb2 (List.mem_of_getElem? (i := 168) rfl)) rfl
theorem mL_X5_131 : Cond.methodLink RX5 131 yX5_isTunnel ∈ wsA := inA (tb2 (List.mem_of_getElem? (i := 169) rfl)) rfl
theorem mI_X5_isTunnel : Cond.instanceMethod yX5_isTunnel ∈ wsA := inA (tb2 (List.mem_of_getElem? (i := 171) rfl)) rfl
theorem mC_X5_isTunnel : Cond.code yX5_isTunnel cX5_isTunnel 2 (some .boolean) ∈ wsA := inA (tb2 (List.mem_of_getElem? (i := 172) rfl)) rfl
theorem mL_X5_144 : Cond.methodLink RX5 144 yX0_isThere ∈ wsA := inA (tb2 (List.mem_of_getElem? (i := 173) rfl)) rfl
theorem mI_X0_isThere : Cond.instanceMethod yX0_isThere ∈ wsA := inA (tb2 (List.mem_of_getElem? (i := 174) rfl)) rfl
theorem mS_X0_isThere : Cond.selects RX0 yX0_isThere yX0_isThere ∈ wsA := inA (tb2 (List.mem_of_getElem? (i := 175) rfl)) rfl
theorem mC_X0_isThere : Cond.code yX0_isThere cX0_isThere 1 (some .boolean) ∈ wsA := inA (tb2 (List.mem_of_getElem? (i := 176) rfl)) rfl
theorem mL_X5_141 : Cond.methodLink RX5 141 yX5_lengthOf ∈ wsA := inA (tb2 (List.mem_of_getElem? (i := 177) rfl)) rfl
theorem mI_X5_lengthOf : Cond.instanceMethod yX5_lengthOf ∈ wsA := inA (tb2 (List.mem_of_getElem? (i := 179) rfl)) rfl
theorem mC_X5_lengthOf : Cond.code yX5_lengthOf cX5_lengthOf 2 (some .int) ∈ wsA := inA (tb2 (List.mem_of_getElem? (i := 180) rfl)) rfl
theorem mL_X5_165 : Cond.methodLink RX5 165 yX0_length ∈ wsA := inA (tb2 (List.mem_of_getElem? (i := 181) rfl)) rfl
theorem mL_L_48 : Cond.methodLink RL 48 yX5_day ∈ wsA := inA (tb2 (List.mem_of_getElem? (i := 182) rfl)) rfl
theorem mI_X5_day : Cond.instanceMethod yX5_day ∈ wsA := inA (tb2 (List.mem_of_getElem? (i := 183) rfl)) rfl
theorem mS_X5_day : Cond.selects RX5 yX5_day yX5_day ∈ wsA := inA (tb2 (List.mem_of_getElem? (i := 184) rfl)) rfl
theorem mC_X5_day : Cond.code yX5_day cX5_day 3 (some .int) ∈ wsA := inA (tb2 (List.mem_of_getElem? (i := 185) rfl)) rfl
theorem mL_X5_150 : Cond.methodLink RX5 150 yX4_hearers ∈ wsA := inA (tb2 (List.mem_of_getElem? (i := 186) rfl)) rfl
theorem mL_X5_153 : Cond.methodLink RX5 153 yJ6_bitCount_0f7a4 ∈ wsA := inA (tb2 (List.mem_of_getElem? (i := 187) rfl)) rfl
theorem mT_J6_bitCount_0f7a4 : Cond.static yJ6_bitCount_0f7a4 ∈ wsA := inA (tb2 (List.mem_of_getElem? (i := 188) rfl)) rfl
theorem mC_J6_bitCount_0f7a4 : Cond.code yJ6_bitCount_0f7a4 cJ6_bitCount_0f7a4 1 (some .int) ∈ wsA := inA (tb2 (List.mem_of_getElem? (i := 189) rfl)) rfl
theorem mK_J6_265 : Cond.constant RJ6 265 (1431655765) ∈ wsA := inA (tb2 (List.mem_of_getElem? (i := 190) rfl)) rfl
theorem mK_J6_266 : Cond.constant RJ6 266 (858993459) ∈ wsA := inA (tb2 (List.mem_of_getElem? (i := 191) rfl)) rfl
theorem mK_J6_267 : Cond.constant RJ6 267 (252645135) ∈ wsA := inA (tb2 (List.mem_of_getElem? (i := 192) rfl)) rfl
theorem mL_L_52 : Cond.methodLink RL 52 yX5_deny ∈ wsA := inA (tb2 (List.mem_of_getElem? (i := 193) rfl)) rfl
theorem mI_X5_deny : Cond.instanceMethod yX5_deny ∈ wsA := inA (tb2 (List.mem_of_getElem? (i := 194) rfl)) rfl
theorem mS_X5_deny : Cond.selects RX5 yX5_deny yX5_deny ∈ wsA := inA (tb2 (List.mem_of_getElem? (i := 195) rfl)) rfl
theorem mC_X5_deny : Cond.code yX5_deny cX5_deny 2 (some .int) ∈ wsA := inA (tb2 (List.mem_of_getElem? (i := 196) rfl)) rfl
theorem mL_L_56 : Cond.methodLink RL 56 yX5_tunnel ∈ wsA := inA (tb2 (List.mem_of_getElem? (i := 197) rfl)) rfl
theorem mI_X5_tunnel : Cond.instanceMethod yX5_tunnel ∈ wsA := inA (tb2 (List.mem_of_getElem? (i := 198) rfl)) rfl
theorem mS_X5_tunnel : Cond.selects RX5 yX5_tunnel yX5_tunnel ∈ wsA := inA (tb2 (List.mem_of_getElem? (i := 199) rfl)) rfl
theorem mC_X5_tunnel : Cond.code yX5_tunnel cX5_tunnel 3 (some .int) ∈ wsA := inA (tb2 (List.mem_of_getElem? (i := 200) rfl)) rfl
theorem mL_X5_161 : Cond.methodLink RX5 161 yX4_lengthInTheEnd ∈ wsA := inA (tb2 (List.mem_of_getElem? (i := 201) rfl)) rfl
theorem mL_L_60 : Cond.methodLink RL 60 yX5_aim ∈ wsA := inA (tb2 (List.mem_of_getElem? (i := 202) rfl)) rfl
theorem mI_X5_aim : Cond.instanceMethod yX5_aim ∈ wsA := inA (tb2 (List.mem_of_getElem? (i := 203) rfl)) rfl
theorem mS_X5_aim : Cond.selects RX5 yX5_aim yX5_aim ∈ wsA := inA (tb2 (List.mem_of_getElem? (i := 204) rfl)) rfl
theorem mC_X5_aim : Cond.code yX5_aim cX5_aim 4 (some .int) ∈ wsA := inA (tb2 (List.mem_of_getElem? (i := 205) rfl)) rfl
theorem mL_X5_167 : Cond.methodLink RX5 167 yX5_fewestToTell ∈ wsA := inA (tb2 (List.mem_of_getElem? (i := 206) rfl)) rfl
theorem mI_X5_fewestToTell : Cond.instanceMethod yX5_fewestToTell ∈ wsA := inA (tb2 (List.mem_of_getElem? (i := 208) rfl)) rfl
theorem mC_X5_fewestToTell : Cond.code yX5_fewestToTell cX5_fewestToTell 5 (some .int) ∈ wsA := inA (tb2 (List.mem_of_getElem? (i := 209) rfl)) rfl
theorem mL_L_64 : Cond.methodLink RL 64 yX5_heard ∈ wsA := inA (tb2 (List.mem_of_getElem? (i := 210) rfl)) rfl
theorem mI_X5_heard : Cond.instanceMethod yX5_heard ∈ wsA := inA (tb2 (List.mem_of_getElem? (i := 211) rfl)) rfl
theorem mS_X5_heard : Cond.selects RX5 yX5_heard yX5_heard ∈ wsA := inA (tb2 (List.mem_of_getElem? (i := 212) rfl)) rfl
theorem mC_X5_heard : Cond.code yX5_heard cX5_heard 3 (some .int) ∈ wsA := inA (tb2 (List.mem_of_getElem? (i := 213) rfl)) rfl
theorem mL_X5_170 : Cond.methodLink RX5 170 yX2_note ∈ wsA := inA (tb2 (List.mem_of_getElem? (i := 214) rfl)) rfl
theorem mI_X2_note : Cond.instanceMethod yX2_note ∈ wsA := inA (tb2 (List.mem_of_getElem? (i := 215) rfl)) rfl
theorem mS_X2_note : Cond.selects RX2 yX2_note yX2_note ∈ wsA := inA (tb2 (List.mem_of_getElem? (i := 216) rfl)) rfl
theorem mC_X2_note : Cond.code yX2_note cX2_note 3 (some .boolean) ∈ wsA := inA (tb2 (List.mem_of_getElem? (i := 217) rfl)) rfl
theorem mL_L_68 : Cond.methodLink RL 68 yX5_forget ∈ wsA := inA (tb2 (List.mem_of_getElem? (i := 218) rfl)) rfl
theorem mI_X5_forget : Cond.instanceMethod yX5_forget ∈ wsA := inA (tb2 (List.mem_of_getElem? (i := 219) rfl)) rfl
theorem mS_X5_forget : Cond.selects RX5 yX5_forget yX5_forget ∈ wsA := inA (tb2 (List.mem_of_getElem? (i := 220) rfl)) rfl
theorem mC_X5_forget : Cond.code yX5_forget cX5_forget 2 (some .int) ∈ wsA := inA (tb2 (List.mem_of_getElem? (i := 221) rfl)) rfl
theorem mL_L_72 : Cond.methodLink RL 72 yX5_began ∈ wsA := inA (tb2 (List.mem_of_getElem? (i := 222) rfl)) rfl
theorem mI_X5_began : Cond.instanceMethod yX5_began ∈ wsA := inA (tb2 (List.mem_of_getElem? (i := 223) rfl)) rfl
theorem mS_X5_began : Cond.selects RX5 yX5_began yX5_began ∈ wsA := inA (tb2 (List.mem_of_getElem? (i := 224) rfl)) rfl
theorem mC_X5_began : Cond.code yX5_began cX5_began 1 (some .int) ∈ wsA := inA (tb2 (List.mem_of_getElem? (i := 225) rfl)) rfl
theorem mL_X5_176 : Cond.methodLink RX5 176 yX3_beginners ∈ wsA := inA (tb2 (List.mem_of_getElem? (i := 226) rfl)) rfl
theorem mI_X3_beginners : Cond.instanceMethod yX3_beginners ∈ wsA := inA (tb2 (List.mem_of_getElem? (i := 227) rfl)) rfl
theorem mS_X3_beginners : Cond.selects RX3 yX3_beginners yX3_beginners ∈ wsA := inA (tb2 (List.mem_of_getElem? (i := 228) rfl)) rfl
theorem mC_X3_beginners : Cond.code yX3_beginners cX3_beginners 3 (some .int) ∈ wsA := inA (tb2 (List.mem_of_getElem? (i := 229) rfl)) rfl
theorem mL_X3_33 : Cond.methodLink RX3 33 yX3_agrees ∈ wsA := inA (tb2 (List.mem_of_getElem? (i := 230) rfl)) rfl
theorem mI_X3_agrees : Cond.instanceMethod yX3_agrees ∈ wsA := inA (tb2 (List.mem_of_getElem? (i := 232) rfl)) rfl
theorem mC_X3_agrees : Cond.code yX3_agrees cX3_agrees 3 (some .boolean) ∈ wsA := inA (tb2 (List.mem_of_getElem? (i := 233) rfl)) rfl
theorem mL_X3_49 : Cond.methodLink RX3 49 yX4_dayHeard ∈ wsA := inA (tb2 (List.mem_of_getElem? (i := 234) rfl)) rfl
theorem mL_L_76 : Cond.methodLink RL 76 yX5_ask ∈ wsA := inA (tb2 (List.mem_of_getElem? (i := 235) rfl)) rfl
theorem mI_X5_ask : Cond.instanceMethod yX5_ask ∈ wsA := inA (tb2 (List.mem_of_getElem? (i := 236) rfl)) rfl
theorem mS_X5_ask : Cond.selects RX5 yX5_ask yX5_ask ∈ wsA := inA (tb2 (List.mem_of_getElem? (i := 237) rfl)) rfl
theorem mC_X5_ask : Cond.code yX5_ask cX5_ask 1 (some .int) ∈ wsA := inA (tb2 (List.mem_of_getElem? (i := 238) rfl)) rfl
theorem mL_X5_179 : Cond.methodLink RX5 179 yX3_bestToAsk ∈ wsA := inA (tb2 (List.mem_of_getElem? (i := 239) rfl)) rfl
theorem mI_X3_bestToAsk : Cond.instanceMethod yX3_bestToAsk ∈ wsA := inA (tb3 (List.mem_of_getElem? (i := 0) rfl)) rfl
theorem mS_X3_bestToAsk : Cond.selects RX3 yX3_bestToAsk yX3_bestToAsk ∈ wsA := inA (tb3 (List.mem_of_getElem? (i := 1) rfl)) rfl
theorem mC_X3_bestToAsk : Cond.code yX3_bestToAsk cX3_bestToAsk 6 (some .int) ∈ wsA := inA (tb3 (List.mem_of_getElem? (i := 2) rfl)) rfl
theorem mL_X3_37 : Cond.methodLink RX3 37 yX3_leftAtWorst ∈ wsA := inA (tb3 (List.mem_of_getElem? (i := 3) rfl)) rfl
theorem mI_X3_leftAtWorst : Cond.instanceMethod yX3_leftAtWorst ∈ wsA := inA (tb3 (List.mem_of_getElem? (i := 5) rfl)) rfl
theorem mC_X3_leftAtWorst : Cond.code yX3_leftAtWorst cX3_leftAtWorst 6 (some .int) ∈ wsA := inA (tb3 (List.mem_of_getElem? (i := 6) rfl)) rfl
theorem mL_X3_61 : Cond.methodLink RX3 61 Lib.Math.max.name ∈ wsA := inA (tb3 (List.mem_of_getElem? (i := 8) rfl)) rfl
theorem mL_L_80 : Cond.methodLink RL 80 yX5_markets ∈ wsA := inA (tb3 (List.mem_of_getElem? (i := 9) rfl)) rfl
theorem mI_X5_markets : Cond.instanceMethod yX5_markets ∈ wsA := inA (tb3 (List.mem_of_getElem? (i := 10) rfl)) rfl
theorem mS_X5_markets : Cond.selects RX5 yX5_markets yX5_markets ∈ wsA := inA (tb3 (List.mem_of_getElem? (i := 11) rfl)) rfl
theorem mC_X5_markets : Cond.code yX5_markets cX5_markets 10 (some .int) ∈ wsA := inA (tb3 (List.mem_of_getElem? (i := 12) rfl)) rfl
theorem mL_X5_182 : Cond.methodLink RX5 182 yX5_seedBehind ∈ wsA := inA (tb3 (List.mem_of_getElem? (i := 13) rfl)) rfl
theorem mT_X5_seedBehind : Cond.static yX5_seedBehind ∈ wsA := inA (tb3 (List.mem_of_getElem? (i := 14) rfl)) rfl
theorem mC_X5_seedBehind : Cond.code yX5_seedBehind cX5_seedBehind 1 (some .int) ∈ wsA := inA (tb3 (List.mem_of_getElem? (i := 15) rfl)) rfl
theorem mK_X5_191 : Cond.constant RX5 191 (1103515245) ∈ wsA := inA (tb3 (List.mem_of_getElem? (i := 16) rfl)) rfl
theorem mK_X5_192 : Cond.constant RX5 192 (2147483647) ∈ wsA := inA (tb3 (List.mem_of_getElem? (i := 17) rfl)) rfl
theorem mK_X5_185 : Cond.constant RX5 185 (65536) ∈ wsA := inA (tb3 (List.mem_of_getElem? (i := 18) rfl)) rfl
theorem mL_X5_186 : Cond.methodLink RX5 186 Lib.Math.max.name ∈ wsA := inA (tb3 (List.mem_of_getElem? (i := 19) rfl)) rfl
theorem mL_L_85 : Cond.methodLink RL 85 yX5_image ∈ wsA := inA (tb3 (List.mem_of_getElem? (i := 20) rfl)) rfl
theorem mI_X5_image : Cond.instanceMethod yX5_image ∈ wsA := inA (tb3 (List.mem_of_getElem? (i := 21) rfl)) rfl
theorem mS_X5_image : Cond.selects RX5 yX5_image yX5_image ∈ wsA := inA (tb3 (List.mem_of_getElem? (i := 22) rfl)) rfl
theorem mC_X5_image : Cond.code yX5_image cX5_image 1 (some .int) ∈ wsA := inA (tb3 (List.mem_of_getElem? (i := 23) rfl)) rfl
theorem mL_X5_193 : Cond.methodLink RX5 193 yX2_copy ∈ wsA := inA (tb3 (List.mem_of_getElem? (i := 24) rfl)) rfl
theorem mI_X2_copy : Cond.instanceMethod yX2_copy ∈ wsA := inA (tb3 (List.mem_of_getElem? (i := 25) rfl)) rfl
theorem mS_X2_copy : Cond.selects RX2 yX2_copy yX2_copy ∈ wsA := inA (tb3 (List.mem_of_getElem? (i := 26) rfl)) rfl
theorem mC_X2_copy : Cond.code yX2_copy cX2_copy 2 none ∈ wsA := inA (tb3 (List.mem_of_getElem? (i := 27) rfl)) rfl
theorem mL_X2_47 : Cond.methodLink RX2 47 arraycopyName ∈ wsA := inA (tb3 (List.mem_of_getElem? (i := 28) rfl)) rfl
theorem mT_arraycopy : Cond.static arraycopyName ∈ wsA := inA (tb3 (List.mem_of_getElem? (i := 29) rfl)) rfl
theorem mV_arraycopy : Cond.native arraycopyName ∈ wsA := inA (tb3 (List.mem_of_getElem? (i := 30) rfl)) rfl
theorem mL_L_89 : Cond.methodLink RL 89 yX5_restore ∈ wsA := inA (tb3 (List.mem_of_getElem? (i := 31) rfl)) rfl
theorem mI_X5_restore : Cond.instanceMethod yX5_restore ∈ wsA := inA (tb3 (List.mem_of_getElem? (i := 32) rfl)) rfl
theorem mS_X5_restore : Cond.selects RX5 yX5_restore yX5_restore ∈ wsA := inA (tb3 (List.mem_of_getElem? (i := 33) rfl)) rfl
theorem mC_X5_restore : Cond.code yX5_restore cX5_restore 1 (some .int) ∈ wsA := inA (tb3 (List.mem_of_getElem? (i := 34) rfl)) rfl
theorem mL_L_93 : Cond.methodLink RL 93 yX5_count ∈ wsA := inA (tb3 (List.mem_of_getElem? (i := 35) rfl)) rfl
theorem mI_X5_count : Cond.instanceMethod yX5_count ∈ wsA := inA (tb3 (List.mem_of_getElem? (i := 36) rfl)) rfl
theorem mS_X5_count : Cond.selects RX5 yX5_count yX5_count ∈ wsA := inA (tb3 (List.mem_of_getElem? (i := 37) rfl)) rfl
theorem mC_X5_count : Cond.code yX5_count cX5_count 2 (some .int) ∈ wsA := inA (tb3 (List.mem_of_getElem? (i := 38) rfl)) rfl
theorem mL_X5_200 : Cond.methodLink RX5 200 yX5_lengthOfAll ∈ wsA := inA (tb3 (List.mem_of_getElem? (i := 39) rfl)) rfl
theorem mI_X5_lengthOfAll : Cond.instanceMethod yX5_lengthOfAll ∈ wsA := inA (tb3 (List.mem_of_getElem? (i := 41) rfl)) rfl
theorem mC_X5_lengthOfAll : Cond.code yX5_lengthOfAll cX5_lengthOfAll 3 (some .int) ∈ wsA := inA (tb3 (List.mem_of_getElem? (i := 42) rfl)) rfl
theorem mL_X5_203 : Cond.methodLink RX5 203 yX2_hearings ∈ wsA := inA (tb3 (List.mem_of_getElem? (i := 43) rfl)) rfl
theorem mI_X2_hearings : Cond.instanceMethod yX2_hearings ∈ wsA := inA (tb3 (List.mem_of_getElem? (i := 44) rfl)) rfl
theorem mS_X2_hearings : Cond.selects RX2 yX2_hearings yX2_hearings ∈ wsA := inA (tb3 (List.mem_of_getElem? (i := 45) rfl)) rfl
theorem mC_X2_hearings : Cond.code yX2_hearings cX2_hearings 3 (some .int) ∈ wsA := inA (tb3 (List.mem_of_getElem? (i := 46) rfl)) rfl
theorem mL_X2_57 : Cond.methodLink RX2 57 yJ6_bitCount_0f7a4 ∈ wsA := inA (tb3 (List.mem_of_getElem? (i := 47) rfl)) rfl
theorem mL_L_97 : Cond.methodLink RL 97 yX5_digest ∈ wsA := inA (tb3 (List.mem_of_getElem? (i := 48) rfl)) rfl
theorem mI_X5_digest : Cond.instanceMethod yX5_digest ∈ wsA := inA (tb3 (List.mem_of_getElem? (i := 49) rfl)) rfl
theorem mS_X5_digest : Cond.selects RX5 yX5_digest yX5_digest ∈ wsA := inA (tb3 (List.mem_of_getElem? (i := 50) rfl)) rfl
theorem mC_X5_digest : Cond.code yX5_digest cX5_digest 4 (some .long) ∈ wsA := inA (tb3 (List.mem_of_getElem? (i := 51) rfl)) rfl
theorem mK_X5_206 : Cond.constantLong RX5 206 (1069) ∈ wsA := inA (tb3 (List.mem_of_getElem? (i := 52) rfl)) rfl
theorem mL_X5_208 : Cond.methodLink RX5 208 yX5_withPeople ∈ wsA := inA (tb3 (List.mem_of_getElem? (i := 53) rfl)) rfl
theorem mI_X5_withPeople : Cond.instanceMethod yX5_withPeople ∈ wsA := inA (tb3 (List.mem_of_getElem? (i := 55) rfl)) rfl
theorem mC_X5_withPeople : Cond.code yX5_withPeople cX5_withPeople 7 (some .long) ∈ wsA := inA (tb3 (List.mem_of_getElem? (i := 56) rfl)) rfl
theorem mL_X5_234 : Cond.methodLink RX5 234 yX5_person ∈ wsA := inA (tb3 (List.mem_of_getElem? (i := 57) rfl)) rfl
theorem mL_X5_218 : Cond.methodLink RX5 218 yX5_mixed ∈ wsA := inA (tb3 (List.mem_of_getElem? (i := 58) rfl)) rfl
theorem mT_X5_mixed : Cond.static yX5_mixed ∈ wsA := inA (tb3 (List.mem_of_getElem? (i := 59) rfl)) rfl
theorem mC_X5_mixed : Cond.code yX5_mixed cX5_mixed 4 (some .long) ∈ wsA := inA (tb3 (List.mem_of_getElem? (i := 60) rfl)) rfl
theorem mK_X5_243 : Cond.constantLong RX5 243 (31) ∈ wsA := inA (tb3 (List.mem_of_getElem? (i := 61) rfl)) rfl
theorem mL_X5_212 : Cond.methodLink RX5 212 yX5_withTunnels ∈ wsA := inA (tb3 (List.mem_of_getElem? (i := 62) rfl)) rfl
theorem mI_X5_withTunnels : Cond.instanceMethod yX5_withTunnels ∈ wsA := inA (tb3 (List.mem_of_getElem? (i := 64) rfl)) rfl
theorem mC_X5_withTunnels : Cond.code yX5_withTunnels cX5_withTunnels 7 (some .long) ∈ wsA := inA (tb3 (List.mem_of_getElem? (i := 65) rfl)) rfl
theorem mL_X5_237 : Cond.methodLink RX5 237 yX5_tunnel ∈ wsA := inA (tb3 (List.mem_of_getElem? (i := 66) rfl)) rfl
theorem mL_X5_215 : Cond.methodLink RX5 215 yX5_aim ∈ wsA := inA (tb3 (List.mem_of_getElem? (i := 67) rfl)) rfl
theorem mL_X5_222 : Cond.methodLink RX5 222 yX5_began ∈ wsA := inA (tb3 (List.mem_of_getElem? (i := 68) rfl)) rfl
theorem mL_X5_225 : Cond.methodLink RX5 225 yX5_ask ∈ wsA := inA (tb3 (List.mem_of_getElem? (i := 69) rfl)) rfl
theorem mL_X5_228 : Cond.methodLink RX5 228 yX5_withLetters ∈ wsA := inA (tb3 (List.mem_of_getElem? (i := 70) rfl)) rfl
theorem mI_X5_withLetters : Cond.instanceMethod yX5_withLetters ∈ wsA := inA (tb3 (List.mem_of_getElem? (i := 72) rfl)) rfl
theorem mC_X5_withLetters : Cond.code yX5_withLetters cX5_withLetters 6 (some .long) ∈ wsA := inA (tb3 (List.mem_of_getElem? (i := 73) rfl)) rfl
theorem mL_X5_240 : Cond.methodLink RX5 240 yX1_codeAt ∈ wsA := inA (tb3 (List.mem_of_getElem? (i := 74) rfl)) rfl
theorem mL_X5_231 : Cond.methodLink RX5 231 yX5_count ∈ wsA := inA (tb3 (List.mem_of_getElem? (i := 75) rfl)) rfl
theorem mQ_L_10 : Cond.classLink RL 10 RX6 ∈ wsA := inA (tb3 (List.mem_of_getElem? (i := 76) rfl)) rfl
theorem mB_X6 : Cond.instantiable RX6 22 ∈ wsA := inA (tb3 (List.mem_of_getElem? (i := 77) rfl)) rfl
theorem mL_L_12 : Cond.methodLink RL 12 yX6_init ∈ wsA := inA (tb3 (List.mem_of_getElem? (i := 78) rfl)) rfl
theorem mI_X6_init : Cond.instanceMethod yX6_init ∈ wsA := inA (tb3 (List.mem_of_getElem? (i := 79) rfl)) rfl
theorem mC_X6_init : Cond.code yX6_init cX6_init 1 none ∈ wsA := inA (tb3 (List.mem_of_getElem? (i := 80) rfl)) rfl
theorem mL_X6_1 : Cond.methodLink RX6 1 objectInit ∈ wsA := inA (tb3 (List.mem_of_getElem? (i := 81) rfl)) rfl
theorem mF_X6_7 : Cond.fieldLink RX6 7 "DugBySaidModel" "page" "[I" ∈ wsA := inA (tb3 (List.mem_of_getElem? (i := 82) rfl)) rfl
theorem mF_X6_44 : Cond.fieldLink RX6 44 "DugBySaidModel" "pageMany" "I" ∈ wsA := inA (tb3 (List.mem_of_getElem? (i := 83) rfl)) rfl
theorem mF_X6_47 : Cond.fieldLink RX6 47 "DugBySaidModel" "endAt" "I" ∈ wsA := inA (tb3 (List.mem_of_getElem? (i := 84) rfl)) rfl
theorem mF_X6_68 : Cond.fieldLink RX6 68 "DugBySaidModel" "people" "I" ∈ wsA := inA (tb3 (List.mem_of_getElem? (i := 85) rfl)) rfl
theorem mF_X6_71 : Cond.fieldLink RX6 71 "DugBySaidModel" "river" "I" ∈ wsA := inA (tb3 (List.mem_of_getElem? (i := 86) rfl)) rfl
theorem mF_X6_74 : Cond.fieldLink RX6 74 "DugBySaidModel" "days" "I" ∈ wsA := inA (tb3 (List.mem_of_getElem? (i := 87) rfl)) rfl
theorem mF_X6_77 : Cond.fieldLink RX6 77 "DugBySaidModel" "changes" "I" ∈ wsA := inA (tb3 (List.mem_of_getElem? (i := 88) rfl)) rfl
theorem mF_X6_83 : Cond.fieldLink RX6 83 "DugBySaidModel" "hillsRead" "I" ∈ wsA := inA (tb3 (List.mem_of_getElem? (i := 89) rfl)) rfl
theorem mF_X6_13 : Cond.fieldLink RX6 13 "DugBySaidModel" "rows" "[I" ∈ wsA := inA (tb3 (List.mem_of_getElem? (i := 90) rfl)) rfl
theorem mF_X6_16 : Cond.fieldLink RX6 16 "DugBySaidModel" "tunnels" "[I" ∈ wsA := inA (tb3 (List.mem_of_getElem? (i := 91) rfl)) rfl
theorem mF_X6_80 : Cond.fieldLink RX6 80 "DugBySaidModel" "askedMany" "I" ∈ wsA := inA (tb3 (List.mem_of_getElem? (i := 92) rfl)) rfl
theorem mF_X6_19 : Cond.fieldLink RX6 19 "DugBySaidModel" "askeds" "[I" ∈ wsA := inA (tb3 (List.mem_of_getElem? (i := 93) rfl)) rfl
theorem mF_X6_22 : Cond.fieldLink RX6 22 "DugBySaidModel" "parts" "[I" ∈ wsA := inA (tb3 (List.mem_of_getElem? (i := 94) rfl)) rfl
theorem mF_X6_159 : Cond.fieldLink RX6 159 "DugBySaidModel" "seedNow" "I" ∈ wsA := inA (tb3 (List.mem_of_getElem? (i := 95) rfl)) rfl
theorem mF_X6_34 : Cond.fieldLink RX6 34 "DugBySaidModel" "keptHill" "I" ∈ wsA := inA (tb3 (List.mem_of_getElem? (i := 96) rfl)) rfl
theorem mF_X6_176 : Cond.fieldLink RX6 176 "DugBySaidModel" "keptDays" "I" ∈ wsA := inA (tb3 (List.mem_of_getElem? (i := 97) rfl)) rfl
theorem mF_X6_179 : Cond.fieldLink RX6 179 "DugBySaidModel" "keptChanges" "I" ∈ wsA := inA (tb3 (List.mem_of_getElem? (i := 98) rfl)) rfl
theorem mF_X6_182 : Cond.fieldLink RX6 182 "DugBySaidModel" "keptAsked" "I" ∈ wsA := inA (tb3 (List.mem_of_getElem? (i := 99) rfl)) rfl
theorem mF_X6_25 : Cond.fieldLink RX6 25 "DugBySaidModel" "keptRows" "[I" ∈ wsA := inA (tb3 (List.mem_of_getElem? (i := 100) rfl)) rfl
theorem mF_X6_28 : Cond.fieldLink RX6 28 "DugBySaidModel" "keptTunnels" "[I" ∈ wsA := inA (tb3 (List.mem_of_getElem? (i := 101) rfl)) rfl
theorem mF_X6_31 : Cond.fieldLink RX6 31 "DugBySaidModel" "keptAskeds" "[I" ∈ wsA := inA (tb3 (List.mem_of_getElem? (i := 102) rfl)) rfl
theorem mF_X6_196 : Cond.fieldLink RX6 196 "DugBySaidModel" "hash" "J" ∈ wsA := inA (tb3 (List.mem_of_getElem? (i := 103) rfl)) rfl
theorem mL_L_17 : Cond.methodLink RL 17 yX6_letter ∈ wsA := inA (tb3 (List.mem_of_getElem? (i := 149) rfl)) rfl
theorem mI_X6_letter : Cond.instanceMethod yX6_letter ∈ wsA := inA (tb3 (List.mem_of_getElem? (i := 150) rfl)) rfl
theorem mS_X6_letter : Cond.selects RX6 yX6_letter yX6_letter ∈ wsA := inA (tb3 (List.mem_of_getElem? (i := 151) rfl)) rfl
theorem mC_X6_letter : Cond.code yX6_letter cX6_letter 2 (some .int) ∈ wsA := inA (tb3 (List.mem_of_getElem? (i := 152) rfl)) rfl
theorem mK_X6_38 : Cond.constantLong RX6 38 (126) ∈ wsA := inA (tb3 (List.mem_of_getElem? (i := 153) rfl)) rfl
theorem mL_X6_40 : Cond.methodLink RX6 40 yX6_in ∈ wsA := inA (tb3 (List.mem_of_getElem? (i := 154) rfl)) rfl
theorem mT_X6_in : Cond.static yX6_in ∈ wsA := inA (tb3 (List.mem_of_getElem? (i := 155) rfl)) rfl
theorem mC_X6_in : Cond.code yX6_in cX6_in 6 (some .boolean) ∈ wsA := inA (tb3 (List.mem_of_getElem? (i := 156) rfl)) rfl
theorem mL_L_22 : Cond.methodLink RL 22 yX6_blank ∈ wsA := inA (tb3 (List.mem_of_getElem? (i := 157) rfl)) rfl
theorem mI_X6_blank : Cond.instanceMethod yX6_blank ∈ wsA := inA (tb3 (List.mem_of_getElem? (i := 158) rfl)) rfl
theorem mS_X6_blank : Cond.selects RX6 yX6_blank yX6_blank ∈ wsA := inA (tb3 (List.mem_of_getElem? (i := 159) rfl)) rfl
theorem mC_X6_blank : Cond.code yX6_blank cX6_blank 2 (some .int) ∈ wsA := inA (tb3 (List.mem_of_getElem? (i := 160) rfl)) rfl
theorem mL_L_26 : Cond.methodLink RL 26 yX6_fault ∈ wsA := inA (tb3 (List.mem_of_getElem? (i := 161) rfl)) rfl
theorem mI_X6_fault : Cond.instanceMethod yX6_fault ∈ wsA := inA (tb3 (List.mem_of_getElem? (i := 162) rfl)) rfl
theorem mS_X6_fault : Cond.selects RX6 yX6_fault yX6_fault ∈ wsA := inA (tb3 (List.mem_of_getElem? (i := 163) rfl)) rfl
theorem mC_X6_fault : Cond.code yX6_fault cX6_fault 1 (some .int) ∈ wsA := inA (tb3 (List.mem_of_getElem? (i := 164) rfl)) rfl
theorem mL_X6_64 : Cond.methodLink RX6 64 yX6_faultOf ∈ wsA := inA (tb3 (List.mem_of_getElem? (i := 165) rfl)) rfl
theorem mI_X6_faultOf : Cond.instanceMethod yX6_faultOf ∈ wsA := inA (tb3 (List.mem_of_getElem? (i := 167) rfl)) rfl
theorem mC_X6_faultOf : Cond.code yX6_faultOf cX6_faultOf 2 (some .int) ∈ wsA := inA (tb3 (List.mem_of_getElem? (i := 168) rfl)) rfl
theorem mL_X6_60 : Cond.methodLink RX6 60 yX6_isGood ∈ wsA := inA (tb3 (List.mem_of_getElem? (i := 169) rfl)) rfl
theorem mI_X6_isGood : Cond.instanceMethod yX6_isGood ∈ wsA := inA (tb3 (List.mem_of_getElem? (i := 171) rfl)) rfl
theorem mC_X6_isGood : Cond.code yX6_isGood cX6_isGood 3 (some .boolean) ∈ wsA := inA (tb3 (List.mem_of_getElem? (i := 172) rfl)) rfl
theorem mK_X6_50 : Cond.constantLong RX6 50 (49) ∈ wsA := inA (tb3 (List.mem_of_getElem? (i := 173) rfl)) rfl
theorem mK_X6_52 : Cond.constantLong RX6 52 (57) ∈ wsA := inA (tb3 (List.mem_of_getElem? (i := 174) rfl)) rfl
theorem mL_X6_54 : Cond.methodLink RX6 54 yX6_kindBy ∈ wsA := inA (tb3 (List.mem_of_getElem? (i := 175) rfl)) rfl
theorem mT_X6_kindBy : Cond.static yX6_kindBy ∈ wsA := inA (tb3 (List.mem_of_getElem? (i := 176) rfl)) rfl
theorem mC_X6_kindBy : Cond.code yX6_kindBy cX6_kindBy 1 (some .int) ∈ wsA := inA (tb3 (List.mem_of_getElem? (i := 177) rfl)) rfl
theorem mK_X6_58 : Cond.constantLong RX6 58 (48) ∈ wsA := inA (tb3 (List.mem_of_getElem? (i := 178) rfl)) rfl
theorem mL_L_30 : Cond.methodLink RL 30 yX6_hill ∈ wsA := inA (tb3 (List.mem_of_getElem? (i := 179) rfl)) rfl
theorem mI_X6_hill : Cond.instanceMethod yX6_hill ∈ wsA := inA (tb3 (List.mem_of_getElem? (i := 180) rfl)) rfl
theorem mS_X6_hill : Cond.selects RX6 yX6_hill yX6_hill ∈ wsA := inA (tb3 (List.mem_of_getElem? (i := 181) rfl)) rfl
theorem mC_X6_hill : Cond.code yX6_hill cX6_hill 3 (some .int) ∈ wsA := inA (tb3 (List.mem_of_getElem? (i := 182) rfl)) rfl
theorem mL_L_35 : Cond.methodLink RL 35 yX6_person ∈ wsA := inA (tb3 (List.mem_of_getElem? (i := 183) rfl)) rfl
theorem mI_X6_person : Cond.instanceMethod yX6_person ∈ wsA := inA (tb3 (List.mem_of_getElem? (i := 184) rfl)) rfl
theorem mS_X6_person : Cond.selects RX6 yX6_person yX6_person ∈ wsA := inA (tb3 (List.mem_of_getElem? (i := 185) rfl)) rfl
theorem mC_X6_person : Cond.code yX6_person cX6_person 3 (some .int) ∈ wsA := inA (tb3 (List.mem_of_getElem? (i := 186) rfl)) rfl
theorem mL_X6_120 : Cond.methodLink RX6 120 yX6_isPerson ∈ wsA := inA (tb3 (List.mem_of_getElem? (i := 187) rfl)) rfl
theorem mI_X6_isPerson : Cond.instanceMethod yX6_isPerson ∈ wsA := inA (tb3 (List.mem_of_getElem? (i := 189) rfl)) rfl
theorem mC_X6_isPerson : Cond.code yX6_isPerson cX6_isPerson 2 (some .boolean) ∈ wsA := inA (tb3 (List.mem_of_getElem? (i := 190) rfl)) rfl
theorem mL_X6_123 : Cond.methodLink RX6 123 yX6_tellPerson ∈ wsA := inA (tb3 (List.mem_of_getElem? (i := 191) rfl)) rfl
theorem mI_X6_tellPerson : Cond.instanceMethod yX6_tellPerson ∈ wsA := inA (tb3 (List.mem_of_getElem? (i := 193) rfl)) rfl
theorem mC_X6_tellPerson : Cond.code yX6_tellPerson cX6_tellPerson 3 (some .int) ∈ wsA := inA (tb3 (List.mem_of_getElem? (i := 194) rfl)) rfl
theorem mL_X6_92 : Cond.methodLink RX6 92 yX6_tellsOf ∈ wsA := inA (tb3 (List.mem_of_getElem? (i := 195) rfl)) rfl
theorem mI_X6_tellsOf : Cond.instanceMethod yX6_tellsOf ∈ wsA := inA (tb3 (List.mem_of_getElem? (i := 197) rfl)) rfl
theorem mC_X6_tellsOf : Cond.code yX6_tellsOf cX6_tellsOf 6 (some .int) ∈ wsA := inA (tb3 (List.mem_of_getElem? (i := 198) rfl)) rfl
theorem mL_X6_111 : Cond.methodLink RX6 111 yX6_tunnelsOf ∈ wsA := inA (tb3 (List.mem_of_getElem? (i := 199) rfl)) rfl
theorem mI_X6_tunnelsOf : Cond.instanceMethod yX6_tunnelsOf ∈ wsA := inA (tb3 (List.mem_of_getElem? (i := 201) rfl)) rfl
theorem mC_X6_tunnelsOf : Cond.code yX6_tunnelsOf cX6_tunnelsOf 4 (some .int) ∈ wsA := inA (tb3 (List.mem_of_getElem? (i := 202) rfl)) rfl
theorem mL_X6_114 : Cond.methodLink RX6 114 yX6_endsOf ∈ wsA := inA (tb3 (List.mem_of_getElem? (i := 203) rfl)) rfl
theorem mI_X6_endsOf : Cond.instanceMethod yX6_endsOf ∈ wsA := inA (tb3 (List.mem_of_getElem? (i := 205) rfl)) rfl
theorem mC_X6_endsOf : Cond.code yX6_endsOf cX6_endsOf 2 (some .int) ∈ wsA := inA (tb3 (List.mem_of_getElem? (i := 206) rfl)) rfl
theorem mL_X6_101 : Cond.methodLink RX6 101 yX6_endBy ∈ wsA := inA (tb3 (List.mem_of_getElem? (i := 207) rfl)) rfl
theorem mI_X6_endBy : Cond.instanceMethod yX6_endBy ∈ wsA := inA (tb3 (List.mem_of_getElem? (i := 209) rfl)) rfl
theorem mC_X6_endBy : Cond.code yX6_endBy cX6_endBy 5 (some .int) ∈ wsA := inA (tb3 (List.mem_of_getElem? (i := 210) rfl)) rfl
theorem mL_X6_95 : Cond.methodLink RX6 95 yX6_toldBy ∈ wsA := inA (tb3 (List.mem_of_getElem? (i := 211) rfl)) rfl
theorem mI_X6_toldBy : Cond.instanceMethod yX6_toldBy ∈ wsA := inA (tb3 (List.mem_of_getElem? (i := 213) rfl)) rfl
theorem mC_X6_toldBy : Cond.code yX6_toldBy cX6_toldBy 4 (some .int) ∈ wsA := inA (tb3 (List.mem_of_getElem? (i := 214) rfl)) rfl
theorem mL_X6_105 : Cond.methodLink RX6 105 yX6_lengthBy ∈ wsA := inA (tb3 (List.mem_of_getElem? (i := 215) rfl)) rfl
theorem mI_X6_lengthBy : Cond.instanceMethod yX6_lengthBy ∈ wsA := inA (tb3 (List.mem_of_getElem? (i := 217) rfl)) rfl
theorem mC_X6_lengthBy : Cond.code yX6_lengthBy cX6_lengthBy 7 (some .int) ∈ wsA := inA (tb3 (List.mem_of_getElem? (i := 218) rfl)) rfl
theorem mL_X6_98 : Cond.methodLink RX6 98 yX6_yardsBy ∈ wsA := inA (tb3 (List.mem_of_getElem? (i := 219) rfl)) rfl
theorem mT_X6_yardsBy : Cond.static yX6_yardsBy ∈ wsA := inA (tb3 (List.mem_of_getElem? (i := 220) rfl)) rfl
theorem mC_X6_yardsBy : Cond.code yX6_yardsBy cX6_yardsBy 1 (some .int) ∈ wsA := inA (tb3 (List.mem_of_getElem? (i := 221) rfl)) rfl
theorem mL_X6_117 : Cond.methodLink RX6 117 yX6_lastsOf ∈ wsA := inA (tb3 (List.mem_of_getElem? (i := 222) rfl)) rfl
theorem mI_X6_lastsOf : Cond.instanceMethod yX6_lastsOf ∈ wsA := inA (tb3 (List.mem_of_getElem? (i := 224) rfl)) rfl
theorem mC_X6_lastsOf : Cond.code yX6_lastsOf cX6_lastsOf 5 (some .int) ∈ wsA := inA (tb3 (List.mem_of_getElem? (i := 225) rfl)) rfl
theorem mL_X6_108 : Cond.methodLink RX6 108 yX6_dayOf ∈ wsA := inA (tb3 (List.mem_of_getElem? (i := 226) rfl)) rfl
theorem mI_X6_dayOf : Cond.instanceMethod yX6_dayOf ∈ wsA := inA (tb3 (List.mem_of_getElem? (i := 228) rfl)) rfl
theorem mC_X6_dayOf : Cond.code yX6_dayOf cX6_dayOf 6 (some .int) ∈ wsA := inA (tb3 (List.mem_of_getElem? (i := 229) rfl)) rfl
theorem mL_L_39 : Cond.methodLink RL 39 yX6_as ∈ wsA := inA (tb3 (List.mem_of_getElem? (i := 230) rfl)) rfl
theorem mI_X6_as : Cond.instanceMethod yX6_as ∈ wsA := inA (tb3 (List.mem_of_getElem? (i := 231) rfl)) rfl
theorem mS_X6_as : Cond.selects RX6 yX6_as yX6_as ∈ wsA := inA (tb3 (List.mem_of_getElem? (i := 232) rfl)) rfl
theorem mC_X6_as : Cond.code yX6_as cX6_as 5 (some .int) ∈ wsA := inA (tb3 (List.mem_of_getElem? (i := 233) rfl)) rfl
theorem mK_X6_126 : Cond.constantLong RX6 126 (4) ∈ wsA := inA (tb3 (List.mem_of_getElem? (i := 234) rfl)) rfl
theorem mL_L_43 : Cond.methodLink RL 43 yX6_next ∈ wsA := inA (tb3 (List.mem_of_getElem? (i := 235) rfl)) rfl
theorem mI_X6_next : Cond.instanceMethod yX6_next ∈ wsA := inA (tb3 (List.mem_of_getElem? (i := 236) rfl)) rfl
theorem mS_X6_next : Cond.selects RX6 yX6_next yX6_next ∈ wsA := inA (tb3 (List.mem_of_getElem? (i := 237) rfl)) rfl
theorem mC_X6_next : Cond.code yX6_next cX6_next 4 (some .int) ∈ wsA := inA (tb3 (List.mem_of_getElem? (i := 238) rfl)) rfl
theorem mL_L_47 : Cond.methodLink RL 47 yX6_tell ∈ wsA := inA (tb3 (List.mem_of_getElem? (i := 239) rfl)) rfl
theorem mI_X6_tell : Cond.instanceMethod yX6_tell ∈ wsA := inA (tb4 (List.mem_of_getElem? (i := 0) rfl)) rfl
theorem mS_X6_tell : Cond.selects RX6 yX6_tell yX6_tell ∈ wsA := inA (tb4 (List.mem_of_getElem? (i := 1) rfl)) rfl
theorem mC_X6_tell : Cond.code yX6_tell cX6_tell 3 (some .int) ∈ wsA := inA (tb4 (List.mem_of_getElem? (i := 2) rfl)) rfl
theorem mL_X6_128 : Cond.methodLink RX6 128 yX6_isTunnel ∈ wsA := inA (tb4 (List.mem_of_getElem? (i := 3) rfl)) rfl
theorem mI_X6_isTunnel : Cond.instanceMethod yX6_isTunnel ∈ wsA := inA (tb4 (List.mem_of_getElem? (i := 5) rfl)) rfl
theorem mC_X6_isTunnel : Cond.code yX6_isTunnel cX6_isTunnel 2 (some .boolean) ∈ wsA := inA (tb4 (List.mem_of_getElem? (i := 6) rfl)) rfl
theorem mL_X6_86 : Cond.methodLink RX6 86 yX6_lacks ∈ wsA := inA (tb4 (List.mem_of_getElem? (i := 7) rfl)) rfl
theorem mI_X6_lacks : Cond.instanceMethod yX6_lacks ∈ wsA := inA (tb4 (List.mem_of_getElem? (i := 9) rfl)) rfl
theorem mC_X6_lacks : Cond.code yX6_lacks cX6_lacks 1 (some .boolean) ∈ wsA := inA (tb4 (List.mem_of_getElem? (i := 10) rfl)) rfl
theorem mK_X6_90 : Cond.constantLong RX6 90 (2) ∈ wsA := inA (tb4 (List.mem_of_getElem? (i := 11) rfl)) rfl
theorem mL_X6_131 : Cond.methodLink RX6 131 yX6_lengthOf ∈ wsA := inA (tb4 (List.mem_of_getElem? (i := 12) rfl)) rfl
theorem mI_X6_lengthOf : Cond.instanceMethod yX6_lengthOf ∈ wsA := inA (tb4 (List.mem_of_getElem? (i := 14) rfl)) rfl
theorem mC_X6_lengthOf : Cond.code yX6_lengthOf cX6_lengthOf 2 (some .int) ∈ wsA := inA (tb4 (List.mem_of_getElem? (i := 15) rfl)) rfl
theorem mL_L_51 : Cond.methodLink RL 51 yX6_day ∈ wsA := inA (tb4 (List.mem_of_getElem? (i := 16) rfl)) rfl
theorem mI_X6_day : Cond.instanceMethod yX6_day ∈ wsA := inA (tb4 (List.mem_of_getElem? (i := 17) rfl)) rfl
theorem mS_X6_day : Cond.selects RX6 yX6_day yX6_day ∈ wsA := inA (tb4 (List.mem_of_getElem? (i := 18) rfl)) rfl
theorem mC_X6_day : Cond.code yX6_day cX6_day 4 (some .int) ∈ wsA := inA (tb4 (List.mem_of_getElem? (i := 19) rfl)) rfl
theorem mL_X6_134 : Cond.methodLink RX6 134 yX6_ones ∈ wsA := inA (tb4 (List.mem_of_getElem? (i := 20) rfl)) rfl
theorem mT_X6_ones : Cond.static yX6_ones ∈ wsA := inA (tb4 (List.mem_of_getElem? (i := 21) rfl)) rfl
theorem mC_X6_ones : Cond.code yX6_ones cX6_ones 3 (some .int) ∈ wsA := inA (tb4 (List.mem_of_getElem? (i := 22) rfl)) rfl
theorem mL_L_55 : Cond.methodLink RL 55 yX6_deny ∈ wsA := inA (tb4 (List.mem_of_getElem? (i := 23) rfl)) rfl
theorem mI_X6_deny : Cond.instanceMethod yX6_deny ∈ wsA := inA (tb4 (List.mem_of_getElem? (i := 24) rfl)) rfl
theorem mS_X6_deny : Cond.selects RX6 yX6_deny yX6_deny ∈ wsA := inA (tb4 (List.mem_of_getElem? (i := 25) rfl)) rfl
theorem mC_X6_deny : Cond.code yX6_deny cX6_deny 2 (some .int) ∈ wsA := inA (tb4 (List.mem_of_getElem? (i := 26) rfl)) rfl
theorem mL_L_59 : Cond.methodLink RL 59 yX6_tunnel ∈ wsA := inA (tb4 (List.mem_of_getElem? (i := 27) rfl)) rfl
theorem mI_X6_tunnel : Cond.instanceMethod yX6_tunnel ∈ wsA := inA (tb4 (List.mem_of_getElem? (i := 28) rfl)) rfl
theorem mS_X6_tunnel : Cond.selects RX6 yX6_tunnel yX6_tunnel ∈ wsA := inA (tb4 (List.mem_of_getElem? (i := 29) rfl)) rfl
theorem mC_X6_tunnel : Cond.code yX6_tunnel cX6_tunnel 3 (some .int) ∈ wsA := inA (tb4 (List.mem_of_getElem? (i := 30) rfl)) rfl
theorem mL_X6_139 : Cond.methodLink RX6 139 yX6_tellTunnel ∈ wsA := inA (tb4 (List.mem_of_getElem? (i := 31) rfl)) rfl
theorem mI_X6_tellTunnel : Cond.instanceMethod yX6_tellTunnel ∈ wsA := inA (tb4 (List.mem_of_getElem? (i := 33) rfl)) rfl
theorem mC_X6_tellTunnel : Cond.code yX6_tellTunnel cX6_tellTunnel 3 (some .int) ∈ wsA := inA (tb4 (List.mem_of_getElem? (i := 34) rfl)) rfl
theorem mK_X6_137 : Cond.constantLong RX6 137 (3) ∈ wsA := inA (tb4 (List.mem_of_getElem? (i := 35) rfl)) rfl
theorem mL_L_63 : Cond.methodLink RL 63 yX6_aim ∈ wsA := inA (tb4 (List.mem_of_getElem? (i := 36) rfl)) rfl
theorem mI_X6_aim : Cond.instanceMethod yX6_aim ∈ wsA := inA (tb4 (List.mem_of_getElem? (i := 37) rfl)) rfl
theorem mS_X6_aim : Cond.selects RX6 yX6_aim yX6_aim ∈ wsA := inA (tb4 (List.mem_of_getElem? (i := 38) rfl)) rfl
theorem mC_X6_aim : Cond.code yX6_aim cX6_aim 3 (some .int) ∈ wsA := inA (tb4 (List.mem_of_getElem? (i := 39) rfl)) rfl
theorem mK_X6_142 : Cond.constantLong RX6 142 (12) ∈ wsA := inA (tb4 (List.mem_of_getElem? (i := 40) rfl)) rfl
theorem mL_X6_144 : Cond.methodLink RX6 144 yX6_aimOf ∈ wsA := inA (tb4 (List.mem_of_getElem? (i := 41) rfl)) rfl
theorem mI_X6_aimOf : Cond.instanceMethod yX6_aimOf ∈ wsA := inA (tb4 (List.mem_of_getElem? (i := 43) rfl)) rfl
theorem mC_X6_aimOf : Cond.code yX6_aimOf cX6_aimOf 6 (some .int) ∈ wsA := inA (tb4 (List.mem_of_getElem? (i := 44) rfl)) rfl
theorem mL_L_67 : Cond.methodLink RL 67 yX6_heard ∈ wsA := inA (tb4 (List.mem_of_getElem? (i := 45) rfl)) rfl
theorem mI_X6_heard : Cond.instanceMethod yX6_heard ∈ wsA := inA (tb4 (List.mem_of_getElem? (i := 46) rfl)) rfl
theorem mS_X6_heard : Cond.selects RX6 yX6_heard yX6_heard ∈ wsA := inA (tb4 (List.mem_of_getElem? (i := 47) rfl)) rfl
theorem mC_X6_heard : Cond.code yX6_heard cX6_heard 3 (some .int) ∈ wsA := inA (tb4 (List.mem_of_getElem? (i := 48) rfl)) rfl
theorem mK_X6_147 : Cond.constantLong RX6 147 (-1) ∈ wsA := inA (tb4 (List.mem_of_getElem? (i := 49) rfl)) rfl
theorem mK_X6_149 : Cond.constantLong RX6 149 (9) ∈ wsA := inA (tb4 (List.mem_of_getElem? (i := 50) rfl)) rfl
theorem mL_L_71 : Cond.methodLink RL 71 yX6_forget ∈ wsA := inA (tb4 (List.mem_of_getElem? (i := 51) rfl)) rfl
theorem mI_X6_forget : Cond.instanceMethod yX6_forget ∈ wsA := inA (tb4 (List.mem_of_getElem? (i := 52) rfl)) rfl
theorem mS_X6_forget : Cond.selects RX6 yX6_forget yX6_forget ∈ wsA := inA (tb4 (List.mem_of_getElem? (i := 53) rfl)) rfl
theorem mC_X6_forget : Cond.code yX6_forget cX6_forget 2 (some .int) ∈ wsA := inA (tb4 (List.mem_of_getElem? (i := 54) rfl)) rfl
theorem mL_L_75 : Cond.methodLink RL 75 yX6_began ∈ wsA := inA (tb4 (List.mem_of_getElem? (i := 55) rfl)) rfl
theorem mI_X6_began : Cond.instanceMethod yX6_began ∈ wsA := inA (tb4 (List.mem_of_getElem? (i := 56) rfl)) rfl
theorem mS_X6_began : Cond.selects RX6 yX6_began yX6_began ∈ wsA := inA (tb4 (List.mem_of_getElem? (i := 57) rfl)) rfl
theorem mC_X6_began : Cond.code yX6_began cX6_began 1 (some .int) ∈ wsA := inA (tb4 (List.mem_of_getElem? (i := 58) rfl)) rfl
theorem mL_X6_151 : Cond.methodLink RX6 151 yX6_beganOf ∈ wsA := inA (tb4 (List.mem_of_getElem? (i := 59) rfl)) rfl
theorem mI_X6_beganOf : Cond.instanceMethod yX6_beganOf ∈ wsA := inA (tb4 (List.mem_of_getElem? (i := 61) rfl)) rfl
theorem mC_X6_beganOf : Cond.code yX6_beganOf cX6_beganOf 5 (some .int) ∈ wsA := inA (tb4 (List.mem_of_getElem? (i := 62) rfl)) rfl
theorem mL_L_79 : Cond.methodLink RL 79 yX6_ask ∈ wsA := inA (tb4 (List.mem_of_getElem? (i := 63) rfl)) rfl
theorem mI_X6_ask : Cond.instanceMethod yX6_ask ∈ wsA := inA (tb4 (List.mem_of_getElem? (i := 64) rfl)) rfl
theorem mS_X6_ask : Cond.selects RX6 yX6_ask yX6_ask ∈ wsA := inA (tb4 (List.mem_of_getElem? (i := 65) rfl)) rfl
theorem mC_X6_ask : Cond.code yX6_ask cX6_ask 1 (some .int) ∈ wsA := inA (tb4 (List.mem_of_getElem? (i := 66) rfl)) rfl
theorem mL_X6_154 : Cond.methodLink RX6 154 yX6_askOf ∈ wsA := inA (tb4 (List.mem_of_getElem? (i := 67) rfl)) rfl
theorem mI_X6_askOf : Cond.instanceMethod yX6_askOf ∈ wsA := inA (tb4 (List.mem_of_getElem? (i := 69) rfl)) rfl
theorem mC_X6_askOf : Cond.code yX6_askOf cX6_askOf 8 (some .int) ∈ wsA := inA (tb4 (List.mem_of_getElem? (i := 70) rfl)) rfl
theorem mL_L_84 : Cond.methodLink RL 84 yX6_markets ∈ wsA := inA (tb4 (List.mem_of_getElem? (i := 71) rfl)) rfl
theorem mI_X6_markets : Cond.instanceMethod yX6_markets ∈ wsA := inA (tb4 (List.mem_of_getElem? (i := 72) rfl)) rfl
theorem mS_X6_markets : Cond.selects RX6 yX6_markets yX6_markets ∈ wsA := inA (tb4 (List.mem_of_getElem? (i := 73) rfl)) rfl
theorem mC_X6_markets : Cond.code yX6_markets cX6_markets 8 (some .int) ∈ wsA := inA (tb4 (List.mem_of_getElem? (i := 74) rfl)) rfl
theorem mK_X6_167 : Cond.constantLong RX6 167 (60) ∈ wsA := inA (tb4 (List.mem_of_getElem? (i := 75) rfl)) rfl
theorem mL_X6_169 : Cond.methodLink RX6 169 yX6_draw ∈ wsA := inA (tb4 (List.mem_of_getElem? (i := 76) rfl)) rfl
theorem mI_X6_draw : Cond.instanceMethod yX6_draw ∈ wsA := inA (tb4 (List.mem_of_getElem? (i := 78) rfl)) rfl
theorem mC_X6_draw : Cond.code yX6_draw cX6_draw 2 (some .int) ∈ wsA := inA (tb4 (List.mem_of_getElem? (i := 79) rfl)) rfl
theorem mK_X6_157 : Cond.constantLong RX6 157 (1103515245) ∈ wsA := inA (tb4 (List.mem_of_getElem? (i := 80) rfl)) rfl
theorem mK_X6_162 : Cond.constantLong RX6 162 (12345) ∈ wsA := inA (tb4 (List.mem_of_getElem? (i := 81) rfl)) rfl
theorem mK_X6_164 : Cond.constantLong RX6 164 (2147483647) ∈ wsA := inA (tb4 (List.mem_of_getElem? (i := 82) rfl)) rfl
theorem mK_X6_166 : Cond.constant RX6 166 (65536) ∈ wsA := inA (tb4 (List.mem_of_getElem? (i := 83) rfl)) rfl
theorem mL_L_88 : Cond.methodLink RL 88 yX6_image ∈ wsA := inA (tb4 (List.mem_of_getElem? (i := 84) rfl)) rfl
theorem mI_X6_image : Cond.instanceMethod yX6_image ∈ wsA := inA (tb4 (List.mem_of_getElem? (i := 85) rfl)) rfl
theorem mS_X6_image : Cond.selects RX6 yX6_image yX6_image ∈ wsA := inA (tb4 (List.mem_of_getElem? (i := 86) rfl)) rfl
theorem mC_X6_image : Cond.code yX6_image cX6_image 1 (some .int) ∈ wsA := inA (tb4 (List.mem_of_getElem? (i := 87) rfl)) rfl
theorem mL_X6_172 : Cond.methodLink RX6 172 yX6_copy ∈ wsA := inA (tb4 (List.mem_of_getElem? (i := 88) rfl)) rfl
theorem mT_X6_copy : Cond.static yX6_copy ∈ wsA := inA (tb4 (List.mem_of_getElem? (i := 89) rfl)) rfl
theorem mC_X6_copy : Cond.code yX6_copy cX6_copy 3 none ∈ wsA := inA (tb4 (List.mem_of_getElem? (i := 90) rfl)) rfl
theorem mL_L_92 : Cond.methodLink RL 92 yX6_restore ∈ wsA := inA (tb4 (List.mem_of_getElem? (i := 91) rfl)) rfl
theorem mI_X6_restore : Cond.instanceMethod yX6_restore ∈ wsA := inA (tb4 (List.mem_of_getElem? (i := 92) rfl)) rfl
theorem mS_X6_restore : Cond.selects RX6 yX6_restore yX6_restore ∈ wsA := inA (tb4 (List.mem_of_getElem? (i := 93) rfl)) rfl
theorem mC_X6_restore : Cond.code yX6_restore cX6_restore 1 (some .int) ∈ wsA := inA (tb4 (List.mem_of_getElem? (i := 94) rfl)) rfl
theorem mL_L_96 : Cond.methodLink RL 96 yX6_count ∈ wsA := inA (tb4 (List.mem_of_getElem? (i := 95) rfl)) rfl
theorem mI_X6_count : Cond.instanceMethod yX6_count ∈ wsA := inA (tb4 (List.mem_of_getElem? (i := 96) rfl)) rfl
theorem mS_X6_count : Cond.selects RX6 yX6_count yX6_count ∈ wsA := inA (tb4 (List.mem_of_getElem? (i := 97) rfl)) rfl
theorem mC_X6_count : Cond.code yX6_count cX6_count 2 (some .int) ∈ wsA := inA (tb4 (List.mem_of_getElem? (i := 98) rfl)) rfl
theorem mL_X6_191 : Cond.methodLink RX6 191 yX6_countOf ∈ wsA := inA (tb4 (List.mem_of_getElem? (i := 99) rfl)) rfl
theorem mI_X6_countOf : Cond.instanceMethod yX6_countOf ∈ wsA := inA (tb4 (List.mem_of_getElem? (i := 101) rfl)) rfl
theorem mC_X6_countOf : Cond.code yX6_countOf cX6_countOf 2 (some .int) ∈ wsA := inA (tb4 (List.mem_of_getElem? (i := 102) rfl)) rfl
theorem mL_X6_185 : Cond.methodLink RX6 185 yX6_lengthAll ∈ wsA := inA (tb4 (List.mem_of_getElem? (i := 103) rfl)) rfl
theorem mI_X6_lengthAll : Cond.instanceMethod yX6_lengthAll ∈ wsA := inA (tb4 (List.mem_of_getElem? (i := 105) rfl)) rfl
theorem mC_X6_lengthAll : Cond.code yX6_lengthAll cX6_lengthAll 3 (some .int) ∈ wsA := inA (tb4 (List.mem_of_getElem? (i := 106) rfl)) rfl
theorem mL_X6_188 : Cond.methodLink RX6 188 yX6_heardAll ∈ wsA := inA (tb4 (List.mem_of_getElem? (i := 107) rfl)) rfl
theorem mI_X6_heardAll : Cond.instanceMethod yX6_heardAll ∈ wsA := inA (tb4 (List.mem_of_getElem? (i := 109) rfl)) rfl
theorem mC_X6_heardAll : Cond.code yX6_heardAll cX6_heardAll 1 (some .int) ∈ wsA := inA (tb4 (List.mem_of_getElem? (i := 110) rfl)) rfl
theorem mL_L_101 : Cond.methodLink RL 101 yX6_digest ∈ wsA := inA (tb4 (List.mem_of_getElem? (i := 111) rfl)) rfl
theorem mI_X6_digest : Cond.instanceMethod yX6_digest ∈ wsA := inA (tb4 (List.mem_of_getElem? (i := 112) rfl)) rfl
theorem mS_X6_digest : Cond.selects RX6 yX6_digest yX6_digest ∈ wsA := inA (tb4 (List.mem_of_getElem? (i := 113) rfl)) rfl
theorem mC_X6_digest : Cond.code yX6_digest cX6_digest 3 (some .long) ∈ wsA := inA (tb4 (List.mem_of_getElem? (i := 114) rfl)) rfl
theorem mK_X6_204 : Cond.constantLong RX6 204 (1069) ∈ wsA := inA (tb4 (List.mem_of_getElem? (i := 115) rfl)) rfl
theorem mL_X6_200 : Cond.methodLink RX6 200 yX6_say ∈ wsA := inA (tb4 (List.mem_of_getElem? (i := 116) rfl)) rfl
theorem mI_X6_say : Cond.instanceMethod yX6_say ∈ wsA := inA (tb4 (List.mem_of_getElem? (i := 118) rfl)) rfl
theorem mC_X6_say : Cond.code yX6_say cX6_say 3 none ∈ wsA := inA (tb4 (List.mem_of_getElem? (i := 119) rfl)) rfl
theorem mK_X6_194 : Cond.constantLong RX6 194 (31) ∈ wsA := inA (tb4 (List.mem_of_getElem? (i := 120) rfl)) rfl
theorem mL_X6_206 : Cond.methodLink RX6 206 yX6_sayHill ∈ wsA := inA (tb4 (List.mem_of_getElem? (i := 121) rfl)) rfl
theorem mI_X6_sayHill : Cond.instanceMethod yX6_sayHill ∈ wsA := inA (tb4 (List.mem_of_getElem? (i := 123) rfl)) rfl
theorem mC_X6_sayHill : Cond.code yX6_sayHill cX6_sayHill 3 none ∈ wsA := inA (tb4 (List.mem_of_getElem? (i := 124) rfl)) rfl
theorem mF_J0_15 : Cond.fieldLink RJ0 15 "java/lang/String" "coder" "B" ∈ wsA := inA (tb4 (List.mem_of_getElem? (i := 125) rfl)) rfl
theorem mF_J0_9 : Cond.fieldLink RJ0 9 "java/lang/String" "value" "[B" ∈ wsA := inA (tb4 (List.mem_of_getElem? (i := 126) rfl)) rfl
theorem mS_X1_fits : Cond.selects RX1 yX1_fits yX1_fits ∈ wsA := inA (tbs (q := (yX1_fits, 2)) (List.mem_append_left _ (List.mem_of_getElem? (i := 0) rfl))) rfl
theorem mS_X5_point : Cond.selects RX5 yX5_point yX5_point ∈ wsA := inA (tbs (q := (yX5_point, 8)) (List.mem_append_left _ (List.mem_of_getElem? (i := 1) rfl))) rfl
theorem mS_X5_isTunnel : Cond.selects RX5 yX5_isTunnel yX5_isTunnel ∈ wsA := inA (tbs (q := (yX5_isTunnel, 8)) (List.mem_append_left _ (List.mem_of_getElem? (i := 2) rfl))) rfl
theorem mS_X5_lengthOf : Cond.selects RX5 yX5_lengthOf yX5_lengthOf ∈ wsA := inA (tbs (q := (yX5_lengthOf, 8)) (List.mem_append_left _ (List.mem_of_getElem? (i := 3) rfl))) rfl
theorem mS_X5_fewestToTell : Cond.selects RX5 yX5_fewestToTell yX5_fewestToTell ∈ wsA := inA (tbs (q := (yX5_fewestToTell, 8)) (List.mem_append_left _ (List.mem_of_getElem? (i := 4) rfl))) rfl
theorem mS_X3_agrees : Cond.selects RX3 yX3_agrees yX3_agrees ∈ wsA := inA (tbs (q := (yX3_agrees, 4)) (List.mem_append_left _ (List.mem_of_getElem? (i := 5) rfl))) rfl
theorem mS_X3_leftAtWorst : Cond.selects RX3 yX3_leftAtWorst yX3_leftAtWorst ∈ wsA := inA (tbs (q := (yX3_leftAtWorst, 4)) (List.mem_append_left _ (List.mem_of_getElem? (i := 6) rfl))) rfl
theorem mS_X5_lengthOfAll : Cond.selects RX5 yX5_lengthOfAll yX5_lengthOfAll ∈ wsA := inA (tbs (q := (yX5_lengthOfAll, 8)) (List.mem_append_left _ (List.mem_of_getElem? (i := 7) rfl))) rfl
theorem mS_X5_withPeople : Cond.selects RX5 yX5_withPeople yX5_withPeople ∈ wsA := inA (tbs (q := (yX5_withPeople, 8)) (List.mem_append_left _ (List.mem_of_getElem? (i := 8) rfl))) rfl
theorem mS_X5_withTunnels : Cond.selects RX5 yX5_withTunnels yX5_withTunnels ∈ wsA := inA (tbs (q := (yX5_withTunnels, 8)) (List.mem_append_left _ (List.mem_of_getElem? (i := 9) rfl))) rfl
theorem mS_X5_withLetters : Cond.selects RX5 yX5_withLetters yX5_withLetters ∈ wsA := inA (tbs (q := (yX5_withLetters, 8)) (List.mem_append_left _ (List.mem_of_getElem? (i := 10) rfl))) rfl
theorem mS_X6_faultOf : Cond.selects RX6 yX6_faultOf yX6_faultOf ∈ wsA := inA (tbs (q := (yX6_faultOf, 22)) (List.mem_append_left _ (List.mem_of_getElem? (i := 11) rfl))) rfl
theorem mS_X6_isGood : Cond.selects RX6 yX6_isGood yX6_isGood ∈ wsA := inA (tbs (q := (yX6_isGood, 22)) (List.mem_append_left _ (List.mem_of_getElem? (i := 12) rfl))) rfl
theorem mS_X6_isPerson : Cond.selects RX6 yX6_isPerson yX6_isPerson ∈ wsA := inA (tbs (q := (yX6_isPerson, 22)) (List.mem_append_left _ (List.mem_of_getElem? (i := 13) rfl))) rfl
theorem mS_X6_tellPerson : Cond.selects RX6 yX6_tellPerson yX6_tellPerson ∈ wsA := inA (tbs (q := (yX6_tellPerson, 22)) (List.mem_append_left _ (List.mem_of_getElem? (i := 14) rfl))) rfl
theorem mS_X6_tellsOf : Cond.selects RX6 yX6_tellsOf yX6_tellsOf ∈ wsA := inA (tbs (q := (yX6_tellsOf, 22)) (List.mem_append_left _ (List.mem_of_getElem? (i := 15) rfl))) rfl
theorem mS_X6_tunnelsOf : Cond.selects RX6 yX6_tunnelsOf yX6_tunnelsOf ∈ wsA := inA (tbs (q := (yX6_tunnelsOf, 22)) (List.mem_append_right _ (List.mem_append_left _ (List.mem_of_getElem? (i := 0) rfl)))) rfl
theorem mS_X6_endsOf : Cond.selects RX6 yX6_endsOf yX6_endsOf ∈ wsA := inA (tbs (q := (yX6_endsOf, 22)) (List.mem_append_right _ (List.mem_append_left _ (List.mem_of_getElem? (i := 1) rfl)))) rfl
theorem mS_X6_endBy : Cond.selects RX6 yX6_endBy yX6_endBy ∈ wsA := inA (tbs (q := (yX6_endBy, 22)) (List.mem_append_right _ (List.mem_append_left _ (List.mem_of_getElem? (i := 2) rfl)))) rfl
theorem mS_X6_toldBy : Cond.selects RX6 yX6_toldBy yX6_toldBy ∈ wsA := inA (tbs (q := (yX6_toldBy, 22)) (List.mem_append_right _ (List.mem_append_left _ (List.mem_of_getElem? (i := 3) rfl)))) rfl
theorem mS_X6_lengthBy : Cond.selects RX6 yX6_lengthBy yX6_lengthBy ∈ wsA := inA (tbs (q := (yX6_lengthBy, 22)) (List.mem_append_right _ (List.mem_append_left _ (List.mem_of_getElem? (i := 4) rfl)))) rfl
theorem mS_X6_lastsOf : Cond.selects RX6 yX6_lastsOf yX6_lastsOf ∈ wsA := inA (tbs (q := (yX6_lastsOf, 22)) (List.mem_append_right _ (List.mem_append_left _ (List.mem_of_getElem? (i := 5) rfl)))) rfl
theorem mS_X6_dayOf : Cond.selects RX6 yX6_dayOf yX6_dayOf ∈ wsA := inA (tbs (q := (yX6_dayOf, 22)) (List.mem_append_right _ (List.mem_append_left _ (List.mem_of_getElem? (i := 6) rfl)))) rfl
theorem mS_X6_isTunnel : Cond.selects RX6 yX6_isTunnel yX6_isTunnel ∈ wsA := inA (tbs (q := (yX6_isTunnel, 22)) (List.mem_append_right _ (List.mem_append_left _ (List.mem_of_getElem? (i := 7) rfl)))) rfl
theorem mS_X6_lacks : Cond.selects RX6 yX6_lacks yX6_lacks ∈ wsA := inA (tbs (q := (yX6_lacks, 22)) (List.mem_append_right _ (List.mem_append_left _ (List.mem_of_getElem? (i := 8) rfl)))) rfl
theorem mS_X6_lengthOf : Cond.selects RX6 yX6_lengthOf yX6_lengthOf ∈ wsA := inA (tbs (q := (yX6_lengthOf, 22)) (List.mem_append_right _ (List.mem_append_left _ (List.mem_of_getElem? (i := 9) rfl)))) rfl
theorem mS_X6_tellTunnel : Cond.selects RX6 yX6_tellTunnel yX6_tellTunnel ∈ wsA := inA (tbs (q := (yX6_tellTunnel, 22)) (List.mem_append_right _ (List.mem_append_left _ (List.mem_of_getElem? (i := 10) rfl)))) rfl
theorem mS_X6_aimOf : Cond.selects RX6 yX6_aimOf yX6_aimOf ∈ wsA := inA (tbs (q := (yX6_aimOf, 22)) (List.mem_append_right _ (List.mem_append_left _ (List.mem_of_getElem? (i := 11) rfl)))) rfl
theorem mS_X6_beganOf : Cond.selects RX6 yX6_beganOf yX6_beganOf ∈ wsA := inA (tbs (q := (yX6_beganOf, 22)) (List.mem_append_right _ (List.mem_append_left _ (List.mem_of_getElem? (i := 12) rfl)))) rfl
theorem mS_X6_askOf : Cond.selects RX6 yX6_askOf yX6_askOf ∈ wsA := inA (tbs (q := (yX6_askOf, 22)) (List.mem_append_right _ (List.mem_append_left _ (List.mem_of_getElem? (i := 13) rfl)))) rfl
theorem mS_X6_draw : Cond.selects RX6 yX6_draw yX6_draw ∈ wsA := inA (tbs (q := (yX6_draw, 22)) (List.mem_append_right _ (List.mem_append_left _ (List.mem_of_getElem? (i := 14) rfl)))) rfl
theorem mS_X6_countOf : Cond.selects RX6 yX6_countOf yX6_countOf ∈ wsA := inA (tbs (q := (yX6_countOf, 22)) (List.mem_append_right _ (List.mem_append_left _ (List.mem_of_getElem? (i := 15) rfl)))) rfl
theorem mS_X6_lengthAll : Cond.selects RX6 yX6_lengthAll yX6_lengthAll ∈ wsA := inA (tbs (q := (yX6_lengthAll, 22)) (List.mem_append_right _ (List.mem_append_right _ (List.mem_of_getElem? (i := 0) rfl)))) rfl
theorem mS_X6_heardAll : Cond.selects RX6 yX6_heardAll yX6_heardAll ∈ wsA := inA (tbs (q := (yX6_heardAll, 22)) (List.mem_append_right _ (List.mem_append_right _ (List.mem_of_getElem? (i := 1) rfl)))) rfl
theorem mS_X6_say : Cond.selects RX6 yX6_say yX6_say ∈ wsA := inA (tbs (q := (yX6_say, 22)) (List.mem_append_right _ (List.mem_append_right _ (List.mem_of_getElem? (i := 2) rfl)))) rfl
theorem mS_X6_sayHill : Cond.selects RX6 yX6_sayHill yX6_sayHill ∈ wsA := inA (tbs (q := (yX6_sayHill, 22)) (List.mem_append_right _ (List.mem_append_right _ (List.mem_of_getElem? (i := 3) rfl)))) rfl
theorem mY_X0_0 : u_lay RX0 TX0 0 ∈ wsA := inA (tb1 (List.mem_of_getElem? (i := 52) rfl)) rfl
theorem mY_X0_1 : u_lay RX0 TX0 1 ∈ wsA := inA (tb1 (List.mem_of_getElem? (i := 54) rfl)) rfl
theorem mY_X0_2 : u_lay RX0 TX0 2 ∈ wsA := inA (tb1 (List.mem_of_getElem? (i := 56) rfl)) rfl
theorem in_X0 : ∀ w ∈ u_ws RX0 TX0 3, w ∈ wsA := by
  intro w hw
  obtain ⟨k, hk, rfl⟩ := List.mem_map.mp hw
  have hk := List.mem_range.mp hk
  match k, hk with
  | 0, _ => exact mY_X0_0
  | 1, _ => exact mY_X0_1
  | 2, _ => exact mY_X0_2
theorem mY_X1_0 : u_lay RX1 TX1 0 ∈ wsA := inA (tb1 (List.mem_of_getElem? (i := 33) rfl)) rfl
theorem mY_X1_1 : u_lay RX1 TX1 1 ∈ wsA := inA (tb1 (List.mem_of_getElem? (i := 35) rfl)) rfl
theorem in_X1 : ∀ w ∈ u_ws RX1 TX1 2, w ∈ wsA := by
  intro w hw
  obtain ⟨k, hk, rfl⟩ := List.mem_map.mp hw
  have hk := List.mem_range.mp hk
  match k, hk with
  | 0, _ => exact mY_X1_0
  | 1, _ => exact mY_X1_1
theorem mY_X2_0 : u_lay RX2 TX2 0 ∈ wsA := inA (tb1 (List.mem_of_getElem? (i := 84) rfl)) rfl
theorem mY_X2_1 : u_lay RX2 TX2 1 ∈ wsA := inA (tb1 (List.mem_of_getElem? (i := 86) rfl)) rfl
theorem mY_X2_2 : u_lay RX2 TX2 2 ∈ wsA := inA (tb1 (List.mem_of_getElem? (i := 88) rfl)) rfl
theorem mY_X2_3 : u_lay RX2 TX2 3 ∈ wsA := inA (tb1 (List.mem_of_getElem? (i := 90) rfl)) rfl
theorem mY_X2_4 : u_lay RX2 TX2 4 ∈ wsA := inA (tb1 (List.mem_of_getElem? (i := 92) rfl)) rfl
theorem mY_X2_5 : u_lay RX2 TX2 5 ∈ wsA := inA (tb1 (List.mem_of_getElem? (i := 94) rfl)) rfl
theorem mY_X2_6 : u_lay RX2 TX2 6 ∈ wsA := inA (tb1 (List.mem_of_getElem? (i := 96) rfl)) rfl
theorem mY_X2_7 : u_lay RX2 TX2 7 ∈ wsA := inA (tb1 (List.mem_of_getElem? (i := 98) rfl)) rfl
theorem mY_X2_8 : u_lay RX2 TX2 8 ∈ wsA := inA (tb1 (List.mem_of_getElem? (i := 100) rfl)) rfl
theorem mY_X2_9 : u_lay RX2 TX2 9 ∈ wsA := inA (tb1 (List.mem_of_getElem? (i := 102) rfl)) rfl
theorem in_X2 : ∀ w ∈ u_ws RX2 TX2 10, w ∈ wsA := by
  intro w hw
  obtain ⟨k, hk, rfl⟩ := List.mem_map.mp hw
  have hk := List.mem_range.mp hk
  match k, hk with
  | 0, _ => exact mY_X2_0
  | 1, _ => exact mY_X2_1
  | 2, _ => exact mY_X2_2
  | 3, _ => exact mY_X2_3
  | 4, _ => exact mY_X2_4
  | 5, _ => exact mY_X2_5
  | 6, _ => exact mY_X2_6
  | 7, _ => exact mY_X2_7
  | 8, _ => exact mY_X2_8
  | 9, _ => exact mY_X2_9
theorem mY_X3_0 : u_lay RX3 TX3 0 ∈ wsA := inA (tb1 (List.mem_of_getElem? (i := 128) rfl)) rfl
theorem mY_X3_1 : u_lay RX3 TX3 1 ∈ wsA := inA (tb1 (List.mem_of_getElem? (i := 130) rfl)) rfl
theorem mY_X3_2 : u_lay RX3 TX3 2 ∈ wsA := inA (tb1 (List.mem_of_getElem? (i := 132) rfl)) rfl
theorem mY_X3_3 : u_lay RX3 TX3 3 ∈ wsA := inA (tb1 (List.mem_of_getElem? (i := 134) rfl)) rfl
theorem in_X3 : ∀ w ∈ u_ws RX3 TX3 4, w ∈ wsA := by
  intro w hw
  obtain ⟨k, hk, rfl⟩ := List.mem_map.mp hw
  have hk := List.mem_range.mp hk
  match k, hk with
  | 0, _ => exact mY_X3_0
  | 1, _ => exact mY_X3_1
  | 2, _ => exact mY_X3_2
  | 3, _ => exact mY_X3_3
theorem mY_X4_0 : u_lay RX4 TX4 0 ∈ wsA := inA (tb1 (List.mem_of_getElem? (i := 113) rfl)) rfl
theorem mY_X4_1 : u_lay RX4 TX4 1 ∈ wsA := inA (tb1 (List.mem_of_getElem? (i := 115) rfl)) rfl
theorem in_X4 : ∀ w ∈ u_ws RX4 TX4 2, w ∈ wsA := by
  intro w hw
  obtain ⟨k, hk, rfl⟩ := List.mem_map.mp hw
  have hk := List.mem_range.mp hk
  match k, hk with
  | 0, _ => exact mY_X4_0
  | 1, _ => exact mY_X4_1
theorem mY_X5_0 : u_lay RX5 TX5 0 ∈ wsA := inA (tb1 (List.mem_of_getElem? (i := 145) rfl)) rfl
theorem mY_X5_1 : u_lay RX5 TX5 1 ∈ wsA := inA (tb1 (List.mem_of_getElem? (i := 147) rfl)) rfl
theorem mY_X5_2 : u_lay RX5 TX5 2 ∈ wsA := inA (tb1 (List.mem_of_getElem? (i := 149) rfl)) rfl
theorem mY_X5_3 : u_lay RX5 TX5 3 ∈ wsA := inA (tb1 (List.mem_of_getElem? (i := 151) rfl)) rfl
theorem mY_X5_4 : u_lay RX5 TX5 4 ∈ wsA := inA (tb1 (List.mem_of_getElem? (i := 153) rfl)) rfl
theorem mY_X5_5 : u_lay RX5 TX5 5 ∈ wsA := inA (tb1 (List.mem_of_getElem? (i := 155) rfl)) rfl
theorem mY_X5_6 : u_lay RX5 TX5 6 ∈ wsA := inA (tb1 (List.mem_of_getElem? (i := 157) rfl)) rfl
theorem mY_X5_7 : u_lay RX5 TX5 7 ∈ wsA := inA (tb1 (List.mem_of_getElem? (i := 159) rfl)) rfl
theorem in_X5 : ∀ w ∈ u_ws RX5 TX5 8, w ∈ wsA := by
  intro w hw
  obtain ⟨k, hk, rfl⟩ := List.mem_map.mp hw
  have hk := List.mem_range.mp hk
  match k, hk with
  | 0, _ => exact mY_X5_0
  | 1, _ => exact mY_X5_1
  | 2, _ => exact mY_X5_2
  | 3, _ => exact mY_X5_3
  | 4, _ => exact mY_X5_4
  | 5, _ => exact mY_X5_5
  | 6, _ => exact mY_X5_6
  | 7, _ => exact mY_X5_7
theorem mY_X6_0 : u_lay RX6 TX6 0 ∈ wsA := inA (tb3 (List.mem_of_getElem? (i := 104) rfl)) rfl
theorem mY_X6_1 : u_lay RX6 TX6 1 ∈ wsA := inA (tb3 (List.mem_of_getElem? (i := 106) rfl)) rfl
theorem mY_X6_2 : u_lay RX6 TX6 2 ∈ wsA := inA (tb3 (List.mem_of_getElem? (i := 108) rfl)) rfl
theorem mY_X6_3 : u_lay RX6 TX6 3 ∈ wsA := inA (tb3 (List.mem_of_getElem? (i := 110) rfl)) rfl
theorem mY_X6_4 : u_lay RX6 TX6 4 ∈ wsA := inA (tb3 (List.mem_of_getElem? (i := 112) rfl)) rfl
theorem mY_X6_5 : u_lay RX6 TX6 5 ∈ wsA := inA (tb3 (List.mem_of_getElem? (i := 114) rfl)) rfl
theorem mY_X6_6 : u_lay RX6 TX6 6 ∈ wsA := inA (tb3 (List.mem_of_getElem? (i := 116) rfl)) rfl
theorem mY_X6_7 : u_lay RX6 TX6 7 ∈ wsA := inA (tb3 (List.mem_of_getElem? (i := 118) rfl)) rfl
theorem mY_X6_8 : u_lay RX6 TX6 8 ∈ wsA := inA (tb3 (List.mem_of_getElem? (i := 120) rfl)) rfl
theorem mY_X6_9 : u_lay RX6 TX6 9 ∈ wsA := inA (tb3 (List.mem_of_getElem? (i := 122) rfl)) rfl
theorem mY_X6_10 : u_lay RX6 TX6 10 ∈ wsA := inA (tb3 (List.mem_of_getElem? (i := 124) rfl)) rfl
theorem mY_X6_11 : u_lay RX6 TX6 11 ∈ wsA := inA (tb3 (List.mem_of_getElem? (i := 126) rfl)) rfl
theorem mY_X6_12 : u_lay RX6 TX6 12 ∈ wsA := inA (tb3 (List.mem_of_getElem? (i := 128) rfl)) rfl
theorem mY_X6_13 : u_lay RX6 TX6 13 ∈ wsA := inA (tb3 (List.mem_of_getElem? (i := 130) rfl)) rfl
theorem mY_X6_14 : u_lay RX6 TX6 14 ∈ wsA := inA (tb3 (List.mem_of_getElem? (i := 132) rfl)) rfl
theorem mY_X6_15 : u_lay RX6 TX6 15 ∈ wsA := inA (tb3 (List.mem_of_getElem? (i := 134) rfl)) rfl
theorem mY_X6_16 : u_lay RX6 TX6 16 ∈ wsA := inA (tb3 (List.mem_of_getElem? (i := 136) rfl)) rfl
theorem mY_X6_17 : u_lay RX6 TX6 17 ∈ wsA := inA (tb3 (List.mem_of_getElem? (i := 138) rfl)) rfl
theorem mY_X6_18 : u_lay RX6 TX6 18 ∈ wsA := inA (tb3 (List.mem_of_getElem? (i := 140) rfl)) rfl
theorem mY_X6_19 : u_lay RX6 TX6 19 ∈ wsA := inA (tb3 (List.mem_of_getElem? (i := 142) rfl)) rfl
theorem mY_X6_20 : u_lay RX6 TX6 20 ∈ wsA := inA (tb3 (List.mem_of_getElem? (i := 144) rfl)) rfl
theorem mY_X6_21 : u_lay RX6 TX6 21 ∈ wsA := inA (tb3 (List.mem_of_getElem? (i := 146) rfl)) rfl
theorem in_X6 : ∀ w ∈ u_ws RX6 TX6 22, w ∈ wsA := by
  intro w hw
  obtain ⟨k, hk, rfl⟩ := List.mem_map.mp hw
  have hk := List.mem_range.mp hk
  match k, hk with
  | 0, _ => exact mY_X6_0
  | 1, _ => exact mY_X6_1
  | 2, _ => exact mY_X6_2
  | 3, _ => exact mY_X6_3
  | 4, _ => exact mY_X6_4
  | 5, _ => exact mY_X6_5
  | 6, _ => exact mY_X6_6
  | 7, _ => exact mY_X6_7
  | 8, _ => exact mY_X6_8
  | 9, _ => exact mY_X6_9
  | 10, _ => exact mY_X6_10
  | 11, _ => exact mY_X6_11
  | 12, _ => exact mY_X6_12
  | 13, _ => exact mY_X6_13
  | 14, _ => exact mY_X6_14
  | 15, _ => exact mY_X6_15
  | 16, _ => exact mY_X6_16
  | 17, _ => exact mY_X6_17
  | 18, _ => exact mY_X6_18
  | 19, _ => exact mY_X6_19
  | 20, _ => exact mY_X6_20
  | 21, _ => exact mY_X6_21
  | k + 22, h => exact absurd h (by omega)
def nwF : List (String × Nat × String × String × String × String) := [(RX5, 63, "DugBySaid$Page", "length", "I", "DugBySaid"), (RX3, 27, "DugBySaid$Hill", "people", "I", "DugBySaid"), (RX4, 19, "DugBySaid$Hill", "people", "I", "DugBySaid"), (RX5, 84, "DugBySaid$Hill", "people", "I", "DugBySaid"), (RX5, 197, "DugBySaid$Hill", "river", "I", "DugBySaid"), (RX5, 134, "DugBySaid$Past", "heard", "[I", "DugBySaid"), (RX5, 138, "DugBySaid$Past", "last", "[I", "DugBySaid"), (RX5, 158, "DugBySaid$Past", "denied", "[I", "DugBySaid"), (RX3, 46, "DugBySaid$Past", "askedWhom", "[I", "DugBySaid"), (RX3, 54, "DugBySaid$Past", "askedDay", "[I", "DugBySaid"), (RX3, 41, "DugBySaid$Past", "asked", "I", "DugBySaid"), (RX5, 173, "DugBySaid$Past", "asked", "I", "DugBySaid"), (RX5, 147, "DugBySaid$Past", "days", "I", "DugBySaid"), (RX5, 120, "DugBySaid$Past", "changes", "I", "DugBySaid")]
def nwM : List (String × Nat × MethodName × String) := [(RX0, 48, yX5_isOfKind, "DugBySaid"), (RX2, 53, yX5_isIn, "DugBySaid"), (RX4, 25, yX5_isIn, "DugBySaid"), (RX0, 52, yX5_isIn, "DugBySaid"), (RX3, 57, yX5_isIn, "DugBySaid")]
theorem nwF_in : ∀ q ∈ nwF, Cond.fieldLinkNest q.1 q.2.1 q.2.2.1 q.2.2.2.1 q.2.2.2.2.1 q.2.2.2.2.2 ∈ lw_tbl := List.forall_mem_cons.mpr ⟨tb1 (List.mem_of_getElem? (i := 32) rfl), List.forall_mem_cons.mpr ⟨tb1 (List.mem_of_getElem? (i := 47) rfl), List.forall_mem_cons.mpr ⟨tb1 (List.mem_of_getElem? (i := 48) rfl), List.forall_mem_cons.mpr ⟨tb1 (List.mem_of_getElem? (i := 49) rfl), List.forall_mem_cons.mpr ⟨tb1 (List.mem_of_getElem? (i := 51) rfl), List.forall_mem_cons.mpr ⟨tb1 (List.mem_of_getElem? (i := 68) rfl), List.forall_mem_cons.mpr ⟨tb1 (List.mem_of_getElem? (i := 70) rfl), List.forall_mem_cons.mpr ⟨tb1 (List.mem_of_getElem? (i := 72) rfl), List.forall_mem_cons.mpr ⟨tb1 (List.mem_of_getElem? (i := 74) rfl), List.forall_mem_cons.mpr ⟨tb1 (List.mem_of_getElem? (i := 76) rfl), List.forall_mem_cons.mpr ⟨tb1 (List.mem_of_getElem? (i := 78) rfl), List.forall_mem_cons.mpr ⟨tb1 (List.mem_of_getElem? (i := 79) rfl), List.forall_mem_cons.mpr ⟨tb1 (List.mem_of_getElem? (i := 81) rfl), List.forall_mem_cons.mpr ⟨tb1 (List.mem_of_getElem? (i := 83) rfl), fun _ h => absurd h List.not_mem_nil⟩⟩⟩⟩⟩⟩⟩⟩⟩⟩⟩⟩⟩⟩
theorem nwM_in : ∀ q ∈ nwM, Cond.methodLinkNest q.1 q.2.1 q.2.2.1 q.2.2.2 ∈ lw_tbl := List.forall_mem_cons.mpr ⟨tb2 (List.mem_of_getElem? (i := 100) rfl), List.forall_mem_cons.mpr ⟨tb2 (List.mem_of_getElem? (i := 121) rfl), List.forall_mem_cons.mpr ⟨tb2 (List.mem_of_getElem? (i := 136) rfl), List.forall_mem_cons.mpr ⟨tb2 (List.mem_of_getElem? (i := 142) rfl), List.forall_mem_cons.mpr ⟨tb3 (List.mem_of_getElem? (i := 7) rfl), fun _ h => absurd h List.not_mem_nil⟩⟩⟩⟩⟩
end
section
/-! ===== my base: one form of contract for all methods (Ct), its entry, its ends, its calls ===== -/
abbrev wA (y : MethodName) (cc : ByteArray) (nL : Nat) (ret : Option FieldType) : List Cond := Cond.code y cc nL ret :: wsA
theorem wsA_good : ∀ w ∈ wsA, (w.onTables && w.keeps) = true ∨ ∃ ty, w = .arrayClass ty := fun w h => good_of_word (List.mem_filter.mp h).2
theorem gA {y0 y : MethodName} {c0 cc : ByteArray} {nL0 nL : Nat} {ret0 ret : Option FieldType} (h : Cond.code y cc nL ret ∈ wsA) : GoodIn (wA y0 c0 nL0 ret0) (wA y cc nL ret) := by
  intro w hw
  rcases List.mem_cons.mp hw with rfl | hw
  · exact ⟨List.mem_cons_of_mem _ h, wsA_good _ h⟩
  · exact ⟨List.mem_cons_of_mem _ hw, wsA_good _ hw⟩
/-- what a call of an instance method asks of the tables, but its link -/
abbrev gV (y : MethodName) (cc : ByteArray) (nL : Nat) (ret : Option FieldType) : Prop := Cond.instanceMethod y ∈ wsA ∧ Cond.selects y.cls y y ∈ wsA ∧ Cond.initialized y.cls ∈ wsA ∧ Cond.code y cc nL ret ∈ wsA
abbrev gS (y : MethodName) (cc : ByteArray) (nL : Nat) (ret : Option FieldType) : Prop := Cond.static y ∈ wsA ∧ Cond.initialized y.cls ∈ wsA ∧ Cond.code y cc nL ret ∈ wsA
abbrev gD (y : MethodName) (n : Nat) : Prop := y.cls ≠ "java/lang/invoke/MethodHandle" ∧ y.cls ≠ "java/lang/invoke/VarHandle" ∧ (parseMethodDescriptor y.desc).map (fun d => d.parameters.length) = some n
theorem gAV {y0 y : MethodName} {c0 cc : ByteArray} {nL0 nL idx : Nat} {own : String} {ret0 ret : Option FieldType} (hl : Cond.methodLink own idx y ∈ wsA) (hg : gV y cc nL ret) : GoodIn (wA y0 c0 nL0 ret0) (wsV own idx y.cls y (wA y cc nL ret)) := by
  obtain ⟨h1, h2, h3, h4⟩ := hg
  refine goodIn_app (fun w hw => ?_) (gA h4)
  have hw' : w ∈ wsA := by
    simp only [List.mem_cons, List.not_mem_nil, or_false] at hw
    rcases hw with rfl | rfl | rfl | rfl
    · exact hl
    · exact h1
    · exact h2
    · exact h3
  exact ⟨List.mem_cons_of_mem _ hw', wsA_good _ hw'⟩
theorem gAS {y0 y : MethodName} {c0 cc : ByteArray} {nL0 nL idx : Nat} {own : String} {ret0 ret : Option FieldType} (hl : Cond.methodLink own idx y ∈ wsA) (hg : gS y cc nL ret) : GoodIn (wA y0 c0 nL0 ret0) (va_wsS own idx y (wA y cc nL ret)) := by
  obtain ⟨h1, h3, h4⟩ := hg
  refine goodIn_app (fun w hw => ?_) (gA h4)
  have hw' : w ∈ wsA := by
    simp only [List.mem_cons, List.not_mem_nil, or_false] at hw
    rcases hw with rfl | rfl | rfl
    · exact hl
    · exact h1
    · exact h3
  exact ⟨List.mem_cons_of_mem _ hw', wsA_good _ hw'⟩
/-- the words of nest mates -/
def NW (U : State) : Prop := (∀ q ∈ nwF, va_Nw (.fieldLinkNest q.1 q.2.1 q.2.2.1 q.2.2.2.1 q.2.2.2.2.1 q.2.2.2.2.2) U) ∧ (∀ q ∈ nwM, va_Nw (.methodLinkNest q.1 q.2.1 q.2.2.1 q.2.2.2) U)
theorem NW.warm {s U : State} (hW : s.WarmedH U.vm) (h : NW s) : NW U := ⟨fun q hq => va_Nw.warmF hW (h.1 q hq), fun q hq => va_Nw.warmM hW (h.2 q hq)⟩
theorem NW.same {u U : State} (hv : u.vm = U.vm) (h : NW u) : NW U := ⟨fun q hq => va_Nw.same rfl hv (h.1 q hq), fun q hq => va_Nw.same rfl hv (h.2 q hq)⟩
/-- the text constant and the static that its search reads -/
def SW (kv : Nat × Nat) (A : Nat → Prop) (U : State) (H : Heap) : Prop := vk_R "DugBySaid$Page" 34 "msgcp" kv.1 U ∧ vk_S 1 [5] [[109, 115, 103, 99, 112]] (fun _ => kv.1) (fun _ => kv.2) A U H ∧ va_Z "java/lang/String" "COMPACT_STRINGS" "Z" (.int 1) A U H
theorem SW.step {kv : Nat × Nat} {A B : Nat → Prop} {s U : State} {H : Heap} {locs : List Loc} (h : SW kv A s s.heap) (hS : va_S A s.heap H locs) (hAB : ∀ q, B q → A q) (hU : U.heap = H) (hW : s.WarmedH U.vm) : SW kv B U U.heap := by
  obtain ⟨h1, h2, h3⟩ := h
  rw [hU]
  exact ⟨h1.warm hW, ((h2.kept hS.2.1).moved hW.alike).narrow hAB, ((h3.kept hS.2.1).moved hW.alike).narrow hAB⟩
theorem SW.same {kv : Nat × Nat} {A : Nat → Prop} {u U : State} {H : Heap} (hv : U.vm = u.vm) (h : SW kv A u H) : SW kv A U H := by
  obtain ⟨h1, h2, h3⟩ := h
  have ha : u.vm.Alike U.vm := by rw [hv]; exact Vm.Alike.refl _
  exact ⟨h1.same hv, h2.moved ha, h3.moved ha⟩
def Pg (kv : Nat × Nat) (D : va_G) (tys : List (ClassId × FieldType)) (ws : va_W) (sz : Nat) (U : State) : Prop := U.heap.size = sz ∧ va_P D vwCl ws U.heap ∧ va_K D vwCl tys U ∧ va_D (fun _ => True) ws ∧ NW U ∧ SW kv (va_A ws sz) U U.heap
theorem Pg.blind {kv : Nat × Nat} {D : va_G} {tys : List (ClassId × FieldType)} {ws : va_W} {sz : Nat} {As : List Value} : FrameBlind (va_Pc As (Pg kv D tys ws sz)) := by
  intro a U g mk q
  obtain ⟨q0, q1, q2, q3, q4, q5, q6⟩ := q
  exact ⟨q0, q1, q2, va_K.moved (u := U) (U := U.calling g mk a) (Vm.Alike.refl U.vm) q3, q4, NW.same (u := U) (U := U.calling g mk a) rfl q5, SW.same (u := U) (U := U.calling g mk a) rfl q6⟩
def Qg (D : va_G) (ws' : va_W) (rv : Option Value) (A : Nat → Prop) : Array Value → State → Outcome → State → Prop := fun _ st oc t => (oc = .returned rv ∧ va_P D vwCl ws' t.heap ∧ va_D A ws') ∧ va_F A st t
/-- the contract: with the arguments As and the world ws the method comes back with rv, and the world is ws' -/
def Ct (l : Launch) (kv : Nat × Nat) (D : va_G) (tys : List (ClassId × FieldType)) (y : MethodName) (cc : ByteArray) (nL : Nat) (ret : Option FieldType) (fr lo : Nat) (ws ws' : va_W) (As : List Value) (rv : Option Value) : Prop :=
  ∀ sz : Nat, Met l y (wA y cc nL ret) { frames := fr, cells := 0, slots := 0, locals := lo } (va_Pc As (Pg kv D tys ws sz)) (Qg D ws' rv (va_A ws sz)) 0 0 (va_A ws sz)
abbrev G (p : Program) (l : Launch) (e : Env) (fr lo : Nat) (s : State) (m : MethodId) (args : Array Value) (below : List Frame) (meth : Method) (c : Code) (D : va_G) (A : Nat → Prop) (ws' : va_W) (rv : Option Value) (H : Heap) (locs : List Loc) (g : JFrame) : Prop :=
  W p l e { frames := fr, cells := 0, slots := 0, locals := lo } s m args below meth c H locs 0 0 (MQ below (Qg D ws' rv A) args s 0 0 A) g
theorem Ct.ofW {l : Launch} {kv : Nat × Nat} {D : va_G} {tys : List (ClassId × FieldType)} {y : MethodName} {cc : ByteArray} {nL : Nat} {ret : Option FieldType} {fr lo : Nat} {ws ws' : va_W} {As : List Value} {rv : Option Value} (hy : plainName y.cls = true) (hn : (lg_sl As).length ≤ nL)
    (body : ∀ (p : Program) (e : Env) (s : State) (m : MethodId) (below : List Frame) (meth : Method) (c : Code) (A : Nat → Prop) (args : Array Value), CallFix p m c cc nL s args (wA y cc nL ret) y.cls → meth.sig.returnType = ret → meth.locks = false → (∀ q : Nat, s.heap.size ≤ q → A q) → va_P D vwCl ws s.heap → va_K D vwCl tys s → va_D A ws → NW s → SW kv A s s.heap → va_S A s.heap s.heap [] → ∀ ls : Array Slot, lv_has ls nL (lv_args 0 As) → G p l e fr lo s m args below meth c D A ws' rv s.heap [] (F0 m 0 ls [])) : Ct l kv D tys y cc nL ret fr lo ws ws' As rv := by
  intro sz
  refine Met.ofW (cc := cc) (maxL := nL) (ret := ret) hy rfl ?_
  intro p e s m args below meth c s₁ B hml hv
  obtain ⟨rfl, hsz, hP, hK, hD0, hN, hW⟩ := hv
  subst hsz
  have hD := hD0.self (sz := s.heap.size)
  have hl := lv_entry As (n := nL) hn
  rw [lg_entry_eq]
  exact body p e s m below meth c (va_A ws s.heap.size) _ ⟨B.exec, B.bytes, hml, findClass_of_methodNamed B.named, atoms_spec (ws := wA y cc nL ret) B.pre⟩ B.returns B.notSynchronized (fun q h => Or.inr h) hP hK hD hN hW va_S.rf _ hl
section RET
variable {p : Program} {l : Launch} {e : Env} {R : Room} {s : State} {m : MethodId} {args : Array Value} {below : List Frame} {meth : Method} {c : Code} {H : Heap} {locs : List Loc} {cells slots : Nat} {Q : State → Prop}
variable {cc : ByteArray} {pc : Nat} {ls : Array Slot} {rest : List Value} {kv : Nat × Nat} {D : va_G} {A : Nat → Prop} {tys : List (ClassId × FieldType)} {fr lo : Nat} {w : va_W}
theorem retI {v r : Int32} (hx : p.tables.exec = Jvm.exec) (hb : c.code = cc) (hr : meth.sig.returnType = some .int) (hlk : meth.locks = false) (hf : some v = some r) (hP : va_P D vwCl w H) (hD : va_D A w) (hS : va_S A s.heap H locs) (hdg : decode cc pc = .ok (.ireturn, 1)) : G p l e fr lo s m args below meth c D A w (some (.int r)) H locs (F0 m pc ls [.int v]) := by
  cases hf
  exact W.iret hx hb hr (fun t ht hW => ⟨⟨rfl, by rw [ht]; exact hP, hD⟩, hS.F ht⟩) hS.2.2 hdg hlk
theorem retZ {v r : Int32} (hx : p.tables.exec = Jvm.exec) (hb : c.code = cc) {ty : FieldType} (hr : meth.sig.returnType = some ty) (hlk : meth.locks = false) (hn : narrow ty (.int v) = .int v) (hf : some v = some r) (hP : va_P D vwCl w H) (hD : va_D A w) (hS : va_S A s.heap H locs) (hdg : decode cc pc = .ok (.ireturn, 1)) : G p l e fr lo s m args below meth c D A w (some (.int r)) H locs (F0 m pc ls [.int v]) := by
  cases hf
  exact W.zret hx hb hr hn (fun t ht hW => ⟨⟨rfl, by rw [ht]; exact hP, hD⟩, hS.F ht⟩) hS.2.2 hdg hlk
theorem retL {v r : Int64} (hx : p.tables.exec = Jvm.exec) (hb : c.code = cc) (hr : meth.sig.returnType = some .long) (hlk : meth.locks = false) (hf : some v = some r) (hP : va_P D vwCl w H) (hD : va_D A w) (hS : va_S A s.heap H locs) (hdg : decode cc pc = .ok (.lreturn, 1)) : G p l e fr lo s m args below meth c D A w (some (.long r)) H locs (F0 m pc ls [.long v]) := by
  cases hf
  exact W.lret hx hb hr (fun t ht hW => ⟨⟨rfl, by rw [ht]; exact hP, hD⟩, hS.F ht⟩) hS.2.2 hdg hlk
theorem retIw {S : Type} {wf : S → va_W} {v r : Int32} {u u' : S} (hx : p.tables.exec = Jvm.exec) (hb : c.code = cc) (hr : meth.sig.returnType = some .int) (hlk : meth.locks = false) (hf : some (v, u) = some (r, u')) (hP : va_P D vwCl (wf u) H) (hD : va_D A (wf u)) (hS : va_S A s.heap H locs) (hdg : decode cc pc = .ok (.ireturn, 1)) : G p l e fr lo s m args below meth c D A (wf u') (some (.int r)) H locs (F0 m pc ls [.int v]) := by
  cases hf
  exact retI hx hb hr hlk rfl hP hD hS hdg
theorem retZw {S : Type} {wf : S → va_W} {v r : Int32} {u u' : S} (hx : p.tables.exec = Jvm.exec) (hb : c.code = cc) {ty : FieldType} (hr : meth.sig.returnType = some ty) (hlk : meth.locks = false) (hn : narrow ty (.int v) = .int v) (hf : some (v, u) = some (r, u')) (hP : va_P D vwCl (wf u) H) (hD : va_D A (wf u)) (hS : va_S A s.heap H locs) (hdg : decode cc pc = .ok (.ireturn, 1)) : G p l e fr lo s m args below meth c D A (wf u') (some (.int r)) H locs (F0 m pc ls [.int v]) := by
  cases hf
  exact retZ hx hb hr hlk hn rfl hP hD hS hdg
theorem retLw {S : Type} {wf : S → va_W} {v r : Int64} {u u' : S} (hx : p.tables.exec = Jvm.exec) (hb : c.code = cc) (hr : meth.sig.returnType = some .long) (hlk : meth.locks = false) (hf : some (v, u) = some (r, u')) (hP : va_P D vwCl (wf u) H) (hD : va_D A (wf u)) (hS : va_S A s.heap H locs) (hdg : decode cc pc = .ok (.lreturn, 1)) : G p l e fr lo s m args below meth c D A (wf u') (some (.long r)) H locs (F0 m pc ls [.long v]) := by
  cases hf
  exact retL hx hb hr hlk rfl hP hD hS hdg
theorem retVw {S : Type} {wf : S → va_W} {u u' : S} (hx : p.tables.exec = Jvm.exec) (hb : c.code = cc) (hr : meth.sig.returnType = none) (hlk : meth.locks = false) (hf : some u = some u') (hP : va_P D vwCl (wf u) H) (hD : va_D A (wf u)) (hS : va_S A s.heap H locs) (hdg : decode cc pc = .ok (.return_, 1)) : G p l e fr lo s m args below meth c D A (wf u') none H locs (F0 m pc ls []) := by
  cases hf
  exact W.vret hx hb hr (fun t ht hW => ⟨⟨rfl, by rw [ht]; exact hP, hD⟩, hS.F ht⟩) hS.2.2 hdg hlk
/-- behind a call by contract -/
theorem cRun {ws ws' : va_W} {a : Array Value} {rv : Option Value} {st0 st1 : List Value} (hr : va_Run p l e R s m args below meth c H locs cells slots 0 0 (F0 m pc ls st0) rest (Qg D ws' rv (va_A ws H.size) a) (va_A ws H.size)) (hS : va_S A s.heap H locs) (hF : ∀ q, va_A ws H.size q → A q) (hst1 : rv.toList ++ rest = st1)
    (kk : ∀ (H1 : Heap) (locs1 : List Loc), va_P D vwCl ws' H1 → va_D A ws' → va_S A s.heap H1 locs1 → W p l e R s m args below meth c H1 locs1 cells slots Q (F0 m (pc + 3) ls st1)) : W p l e R s m args below meth c H locs cells slots Q (F0 m pc ls st0) := by
  subst hst1
  intro T hT X
  obtain ⟨v, st₀, t, T', L, h0, X', hL, e1, e2, ⟨⟨hv, hP1, hD1⟩, hz, hk⟩, st⟩ := hr T hT X
  cases hv
  rw [h0] at hz hk
  obtain ⟨t2, a1, b1⟩ := kk T'.heap (locs ++ L) (by rw [e1]; exact hP1) (hD1.weaken (fun _ q _ h => hF q.1 h))
    ⟨Nat.le_trans hS.1 (by rw [e1]; exact hz), fun q h1 h2 => by rw [e1, hk q (Nat.lt_of_lt_of_le h1 hS.1) (fun z => h2 (hF q z))]; exact hS.2.1 q h1 h2, fun q hq => by
      rcases List.mem_append.mp hq with h | h
      · exact hS.2.2 q h
      · exact hF _ (hL q h)⟩ T' rfl X'
  exact ⟨t2, st t2 a1, b1⟩
theorem freeAll {ws : va_W} (hD : va_D A ws) (hS : va_S A s.heap H locs) (hA : ∀ q : Nat, s.heap.size ≤ q → A q) : ∀ q, va_A ws H.size q → A q := by
  intro q h
  rcases h with ⟨k, e, h⟩ | h
  · exact hD.2 k (q, e) h
  · exact hA q (Nat.le_trans hS.1 h)
theorem preAll {ws : va_W} {As : List Value} {B : Nat → Prop} (hK : va_K D vwCl tys s) (hP : va_P D vwCl ws H) (hD : va_D B ws) (hS : va_S A s.heap H locs) (hF : ∀ q, va_A ws H.size q → A q) (hN : NW s) (hW : SW kv A s s.heap) : ∀ U : State, U.heap = H → s.WarmedH U.vm → va_Pc As (Pg kv D tys ws H.size) As.toArray U :=
  fun U hU hW' => ⟨rfl, by rw [hU], by rw [hU]; exact hP, va_K.moved hW'.alike hK, hD.weaken (fun _ _ _ _ => trivial), hN.warm hW', hW.step hS hF hU hW'⟩
variable {y0 y : MethodName} {nL nL' idx n : Nat} {ret0 ret' : Option FieldType} {own : String} {cc' : ByteArray} {ws ws' : va_W} {As : List Value} {rv : Option Value} {b : Nat} {st0 st1 : List Value}
/-- a call of an instance method, the receiver's cell given -/
theorem cVr (CF : CallFix p m c cc nL s args (wA y0 cc nL ret0) own) (hC : Ct l kv D tys y cc' nL' ret' fr lo ws ws' (.ref b :: As) rv) (hK : va_K D vwCl tys s) (hP : va_P D vwCl ws H) (hD : va_D A ws) (hS : va_S A s.heap H locs) (hA : ∀ q : Nat, s.heap.size ≤ q → A q) (hN : NW s) (hW : SW kv A s s.heap)
    (hl : Cond.methodLink own idx y ∈ wsA) (hg : gV y cc' nL' ret') (hy : gD y n) (hrec : ∃ cellB : Cell, H[b]? = some cellB ∧ cellB.vm.isStatics = false ∧ s.vm.findClass y.cls = some cellB.cls) (hn : As.length = n) (hst : st0 = As.reverse ++ .ref b :: rest) (hR : fr + 1 ≤ R.frames ∧ 8 + (nL' + 11) + lo ≤ R.locals) (hsz : ls.size = nL) (hrs : (rest.map fun v => v.category).sum ≤ 8) (hcs : cells ≤ R.cells ∧ slots ≤ R.slots) (hst1 : rv.toList ++ rest = st1) (hdg : decode cc pc = .ok (.invokevirtual idx, 3))
    (kk : ∀ (H1 : Heap) (locs1 : List Loc), va_P D vwCl ws' H1 → va_D A ws' → va_S A s.heap H1 locs1 → W p l e R s m args below meth c H1 locs1 cells slots Q (F0 m (pc + 3) ls st1)) : W p l e R s m args below meth c H locs cells slots Q (F0 m pc ls st0) := by
  have hF := freeAll hD hS hA
  exact cRun (ws := ws) (ws' := ws') (rv := rv) (va_runV (g := F0 m pc ls st0) (As := As) (rest := rest) CF (hC H.size) (cwV n CF.2.2.2.2 (gAV hl hg) rfl rfl rfl ⟨rfl, hy⟩ hR) ⟨Pg.blind, hrec, preAll hK hP hD hS hF hN hW⟩ rfl hn hsz hst (lv_room hrs) hdg hcs) hS hF hst1 kk
theorem cV {ci q0 : Nat} {fs : List Value} {T : u_T} {Nf : Nat} (CF : CallFix p m c cc nL s args (wA y0 cc nL ret0) own) (hC : Ct l kv D tys y cc' nL' ret' fr lo ws ws' (.ref b :: As) rv) (hK : va_K D vwCl tys s) (hP : va_P D vwCl ws H) (hD : va_D A ws) (hS : va_S A s.heap H locs) (hA : ∀ q : Nat, s.heap.size ≤ q → A q) (hN : NW s) (hW : SW kv A s s.heap)
    (hl : Cond.methodLink own idx y ∈ wsA) (hg : gV y cc' nL' ret') (hy : gD y n) (he : ws[q0]? = some (b, .inr (ci, fs))) (hc : vwCl[ci]? = some (y.cls, T, Nf)) (hn : As.length = n) (hst : st0 = As.reverse ++ .ref b :: rest) (hR : fr + 1 ≤ R.frames ∧ 8 + (nL' + 11) + lo ≤ R.locals) (hsz : ls.size = nL) (hrs : (rest.map fun v => v.category).sum ≤ 8) (hcs : cells ≤ R.cells ∧ slots ≤ R.slots) (hst1 : rv.toList ++ rest = st1) (hdg : decode cc pc = .ok (.invokevirtual idx, 3))
    (kk : ∀ (H1 : Heap) (locs1 : List Loc), va_P D vwCl ws' H1 → va_D A ws' → va_S A s.heap H1 locs1 → W p l e R s m args below meth c H1 locs1 cells slots Q (F0 m (pc + 3) ls st1)) : W p l e R s m args below meth c H locs cells slots Q (F0 m pc ls st0) :=
  cVr CF hC hK hP hD hS hA hN hW hl hg hy (va_recv hK hP hc he) hn hst hR hsz hrs hcs hst1 hdg kk
theorem cSt (CF : CallFix p m c cc nL s args (wA y0 cc nL ret0) own) (hC : Ct l kv D tys y cc' nL' ret' fr lo ws ws' As rv) (hK : va_K D vwCl tys s) (hP : va_P D vwCl ws H) (hD : va_D A ws) (hS : va_S A s.heap H locs) (hA : ∀ q : Nat, s.heap.size ≤ q → A q) (hN : NW s) (hW : SW kv A s s.heap)
    (hl : Cond.methodLink own idx y ∈ wsA) (hg : gS y cc' nL' ret') (hy : gD y n) (hn : As.length = n) (hst : st0 = As.reverse ++ rest) (hR : fr + 1 ≤ R.frames ∧ 8 + (nL' + 11) + lo ≤ R.locals) (hsz : ls.size = nL) (hrs : (rest.map fun v => v.category).sum ≤ 8) (hcs : cells ≤ R.cells ∧ slots ≤ R.slots) (hst1 : rv.toList ++ rest = st1) (hdg : decode cc pc = .ok (.invokestatic idx, 3))
    (kk : ∀ (H1 : Heap) (locs1 : List Loc), va_P D vwCl ws' H1 → va_D A ws' → va_S A s.heap H1 locs1 → W p l e R s m args below meth c H1 locs1 cells slots Q (F0 m (pc + 3) ls st1)) : W p l e R s m args below meth c H locs cells slots Q (F0 m pc ls st0) := by
  have hF := freeAll hD hS hA
  exact cRun (ws := ws) (ws' := ws') (rv := rv) (va_runS (g := F0 m pc ls st0) (As := As) (rest := rest) CF (hC H.size) (va_cwS n CF.2.2.2.2 (gAS hl hg) rfl rfl rfl hy hR) ⟨Pg.blind, preAll hK hP hD hS hF hN hW⟩ rfl hn hsz hst (lv_room hrs) hdg hcs) hS hF hst1 kk
/-- a static method of a nest mate -/
theorem cSN {host : String} (CF : CallFix p m c cc nL s args (wA y0 cc nL ret0) own) (hC : Ct l kv D tys y cc' nL' ret' fr lo ws ws' As rv) (hK : va_K D vwCl tys s) (hP : va_P D vwCl ws H) (hD : va_D A ws) (hS : va_S A s.heap H locs) (hA : ∀ q : Nat, s.heap.size ≤ q → A q) (hN : NW s) (hW : SW kv A s s.heap)
    (hl : (own, idx, y, host) ∈ nwM) (hg : gS y cc' nL' ret') (hy : gD y n) (hn : As.length = n) (hst : st0 = As.reverse ++ rest) (hR : fr + 1 ≤ R.frames ∧ 8 + (nL' + 11) + lo ≤ R.locals) (hsz : ls.size = nL) (hrs : (rest.map fun v => v.category).sum ≤ 8) (hcs : cells ≤ R.cells ∧ slots ≤ R.slots) (hst1 : rv.toList ++ rest = st1) (hdg : decode cc pc = .ok (.invokestatic idx, 3))
    (kk : ∀ (H1 : Heap) (locs1 : List Loc), va_P D vwCl ws' H1 → va_D A ws' → va_S A s.heap H1 locs1 → W p l e R s m args below meth c H1 locs1 cells slots Q (F0 m (pc + 3) ls st1)) : W p l e R s m args below meth c H locs cells slots Q (F0 m pc ls st0) := by
  have hF := freeAll hD hS hA
  have ht := CF.2.2.2.2
  exact cRun (ws := ws) (ws' := ws') (rv := rv) (va_runSN (g := F0 m pc ls st0) (As := As) (rest := rest) CF (hC H.size) ⟨va_cnB n ht (gA hg.2.2) rfl rfl rfl (hN.2 _ hl) (ht _ (List.mem_cons_of_mem _ hg.2.1)) hy hR, ht _ (List.mem_cons_of_mem _ hg.1), trivial⟩ ⟨Pg.blind, preAll hK hP hD hS hF hN hW⟩ rfl hn hsz hst (lv_room hrs) hdg hcs) hS hF hst1 kk
end RET
/-! ===== options: steps of the pure functions ===== -/
abbrev inB (i : Int32) (n : Nat) : Prop := ¬ (i < 0 ∨ n ≤ i.toNatClampNeg)
def bo {α β : Type} (x : Option α) (k : α → Option β) : Option β := match x with
  | none => none
  | some a => k a
def bd {α β γ : Type} (x : Option (α × β)) (k : α → β → Option γ) : Option γ := match x with
  | none => none
  | some (a, b) => k a b
theorem zz_t {α : Type} {c : Prop} [Decidable c] {a b : Option α} {r : α} (h : c) (hf : (if c then a else b) = some r) : a = some r := by rw [if_pos h] at hf; exact hf
theorem zz_f {α : Type} {c : Prop} [Decidable c] {a b : Option α} {r : α} (h : ¬ c) (hf : (if c then a else b) = some r) : b = some r := by rw [if_neg h] at hf; exact hf
theorem zz_nt {α : Type} {c : Prop} [Decidable c] {a b : Option α} {r : α} (h : c) (hf : (if ¬ c then a else b) = some r) : b = some r := by rw [if_neg (fun q => q h)] at hf; exact hf
theorem zz_k {α : Type} {c : Prop} [Decidable c] {a : Option α} {r : α} (hf : (if c then a else none) = some r) : c ∧ a = some r := by
  by_cases h : c
  · exact ⟨h, zz_t h hf⟩
  · rw [if_neg h] at hf; cases hf
theorem zz_o {α β : Type} {x : Option α} {k : α → Option β} {r : β} (hf : bo x k = some r) : ∃ a, x = some a ∧ k a = some r := by
  cases x with
  | none => cases hf
  | some a => exact ⟨a, rfl, hf⟩
theorem zz_b {α β γ : Type} {x : Option (α × β)} {k : α → β → Option γ} {r : γ} (hf : bd x k = some r) : ∃ a b, x = some (a, b) ∧ k a b = some r := by
  cases x with
  | none => cases hf
  | some q => obtain ⟨a, b⟩ := q; exact ⟨a, b, rfl, hf⟩
end
section
/-! ===== the state of the class and of the reference, their cells, and a row for each access ===== -/
abbrev SC : Type := ((((((Nat → Int32) × Int32) × ((Nat → Int32) × Int32)) × ((Int32 × (Nat → Int32)) × (Nat → Int32))) × ((((Nat → Int32) × (Nat → Int32)) × ((Nat → Int32) × (Nat → Int32))) × (((Nat → Int32) × Int32) × Int32))) × ((((Int32 × (Nat → Int32)) × ((Nat → Int32) × (Nat → Int32))) × (((Nat → Int32) × (Nat → Int32)) × (Nat → Int32))) × ((((Nat → Int32) × Int32) × (Int32 × Int32)) × (((Nat → Int32) × Int32) × Int32))))
def c_codes (σ : SC) : (Nat → Int32) := σ.1.1.1.1.1
def sc_codes (σ : SC) (v : (Nat → Int32)) : SC := (((((v, σ.1.1.1.1.2), σ.1.1.1.2), σ.1.1.2), σ.1.2), σ.2)
def c_plen (σ : SC) : Int32 := σ.1.1.1.1.2
def sc_plen (σ : SC) (v : Int32) : SC := (((((σ.1.1.1.1.1, v), σ.1.1.1.2), σ.1.1.2), σ.1.2), σ.2)
def c_kinds (σ : SC) : (Nat → Int32) := σ.1.1.1.2.1
def sc_kinds (σ : SC) (v : (Nat → Int32)) : SC := ((((σ.1.1.1.1, (v, σ.1.1.1.2.2)), σ.1.1.2), σ.1.2), σ.2)
def c_people (σ : SC) : Int32 := σ.1.1.1.2.2
def sc_people (σ : SC) (v : Int32) : SC := ((((σ.1.1.1.1, (σ.1.1.1.2.1, v)), σ.1.1.2), σ.1.2), σ.2)
def c_river (σ : SC) : Int32 := σ.1.1.2.1.1
def sc_river (σ : SC) (v : Int32) : SC := (((σ.1.1.1, ((v, σ.1.1.2.1.2), σ.1.1.2.2)), σ.1.2), σ.2)
def c_nexts (σ : SC) : (Nat → Int32) := σ.1.1.2.1.2
def sc_nexts (σ : SC) (v : (Nat → Int32)) : SC := (((σ.1.1.1, ((σ.1.1.2.1.1, v), σ.1.1.2.2)), σ.1.2), σ.2)
def c_lsts (σ : SC) : (Nat → Int32) := σ.1.1.2.2
def sc_lsts (σ : SC) (v : (Nat → Int32)) : SC := (((σ.1.1.1, (σ.1.1.2.1, v)), σ.1.2), σ.2)
def c_heard (σ : SC) : (Nat → Int32) := σ.1.2.1.1.1
def sc_heard (σ : SC) (v : (Nat → Int32)) : SC := ((σ.1.1, (((v, σ.1.2.1.1.2), σ.1.2.1.2), σ.1.2.2)), σ.2)
def c_last (σ : SC) : (Nat → Int32) := σ.1.2.1.1.2
def sc_last (σ : SC) (v : (Nat → Int32)) : SC := ((σ.1.1, (((σ.1.2.1.1.1, v), σ.1.2.1.2), σ.1.2.2)), σ.2)
def c_denied (σ : SC) : (Nat → Int32) := σ.1.2.1.2.1
def sc_denied (σ : SC) (v : (Nat → Int32)) : SC := ((σ.1.1, ((σ.1.2.1.1, (v, σ.1.2.1.2.2)), σ.1.2.2)), σ.2)
def c_whom (σ : SC) : (Nat → Int32) := σ.1.2.1.2.2
def sc_whom (σ : SC) (v : (Nat → Int32)) : SC := ((σ.1.1, ((σ.1.2.1.1, (σ.1.2.1.2.1, v)), σ.1.2.2)), σ.2)
def c_wday (σ : SC) : (Nat → Int32) := σ.1.2.2.1.1
def sc_wday (σ : SC) (v : (Nat → Int32)) : SC := ((σ.1.1, (σ.1.2.1, ((v, σ.1.2.2.1.2), σ.1.2.2.2))), σ.2)
def c_asked (σ : SC) : Int32 := σ.1.2.2.1.2
def sc_asked (σ : SC) (v : Int32) : SC := ((σ.1.1, (σ.1.2.1, ((σ.1.2.2.1.1, v), σ.1.2.2.2))), σ.2)
def c_days (σ : SC) : Int32 := σ.1.2.2.2
def sc_days (σ : SC) (v : Int32) : SC := ((σ.1.1, (σ.1.2.1, (σ.1.2.2.1, v))), σ.2)
def c_changes (σ : SC) : Int32 := σ.2.1.1.1.1
def sc_changes (σ : SC) (v : Int32) : SC := (σ.1, ((((v, σ.2.1.1.1.2), σ.2.1.1.2), σ.2.1.2), σ.2.2))
def c_knexts (σ : SC) : (Nat → Int32) := σ.2.1.1.1.2
def sc_knexts (σ : SC) (v : (Nat → Int32)) : SC := (σ.1, ((((σ.2.1.1.1.1, v), σ.2.1.1.2), σ.2.1.2), σ.2.2))
def c_klsts (σ : SC) : (Nat → Int32) := σ.2.1.1.2.1
def sc_klsts (σ : SC) (v : (Nat → Int32)) : SC := (σ.1, (((σ.2.1.1.1, (v, σ.2.1.1.2.2)), σ.2.1.2), σ.2.2))
def c_kheard (σ : SC) : (Nat → Int32) := σ.2.1.1.2.2
def sc_kheard (σ : SC) (v : (Nat → Int32)) : SC := (σ.1, (((σ.2.1.1.1, (σ.2.1.1.2.1, v)), σ.2.1.2), σ.2.2))
def c_klast (σ : SC) : (Nat → Int32) := σ.2.1.2.1.1
def sc_klast (σ : SC) (v : (Nat → Int32)) : SC := (σ.1, ((σ.2.1.1, ((v, σ.2.1.2.1.2), σ.2.1.2.2)), σ.2.2))
def c_kdenied (σ : SC) : (Nat → Int32) := σ.2.1.2.1.2
def sc_kdenied (σ : SC) (v : (Nat → Int32)) : SC := (σ.1, ((σ.2.1.1, ((σ.2.1.2.1.1, v), σ.2.1.2.2)), σ.2.2))
def c_kwhom (σ : SC) : (Nat → Int32) := σ.2.1.2.2
def sc_kwhom (σ : SC) (v : (Nat → Int32)) : SC := (σ.1, ((σ.2.1.1, (σ.2.1.2.1, v)), σ.2.2))
def c_kwday (σ : SC) : (Nat → Int32) := σ.2.2.1.1.1
def sc_kwday (σ : SC) (v : (Nat → Int32)) : SC := (σ.1, (σ.2.1, (((v, σ.2.2.1.1.2), σ.2.2.1.2), σ.2.2.2)))
def c_kasked (σ : SC) : Int32 := σ.2.2.1.1.2
def sc_kasked (σ : SC) (v : Int32) : SC := (σ.1, (σ.2.1, (((σ.2.2.1.1.1, v), σ.2.2.1.2), σ.2.2.2)))
def c_kdays (σ : SC) : Int32 := σ.2.2.1.2.1
def sc_kdays (σ : SC) (v : Int32) : SC := (σ.1, (σ.2.1, ((σ.2.2.1.1, (v, σ.2.2.1.2.2)), σ.2.2.2)))
def c_kchanges (σ : SC) : Int32 := σ.2.2.1.2.2
def sc_kchanges (σ : SC) (v : Int32) : SC := (σ.1, (σ.2.1, ((σ.2.2.1.1, (σ.2.2.1.2.1, v)), σ.2.2.2)))
def c_left (σ : SC) : (Nat → Int32) := σ.2.2.2.1.1
def sc_left (σ : SC) (v : (Nat → Int32)) : SC := (σ.1, (σ.2.1, (σ.2.2.1, ((v, σ.2.2.2.1.2), σ.2.2.2.2))))
def c_hasImage (σ : SC) : Int32 := σ.2.2.2.1.2
def sc_hasImage (σ : SC) (v : Int32) : SC := (σ.1, (σ.2.1, (σ.2.2.1, ((σ.2.2.2.1.1, v), σ.2.2.2.2))))
def c_readings (σ : SC) : Int32 := σ.2.2.2.2
def sc_readings (σ : SC) (v : Int32) : SC := (σ.1, (σ.2.1, (σ.2.2.1, (σ.2.2.2.1, v))))
def wC (ad : Nat → Nat) (cA : ClassId) (σ : SC) : va_W := [(ad 0, .inr (5, [.ref (ad 1), .ref (ad 3), .ref (ad 5), .ref (ad 13), .ref (ad 21), .ref (ad 22), .int (c_hasImage σ), .int (c_readings σ)])),
  (ad 1, .inr (1, [.ref (ad 2), .int (c_plen σ)])),
  (ad 2, .inl (cA, 22, .inl (c_codes σ))),
  (ad 3, .inr (0, [.ref (ad 4), .int (c_people σ), .int (c_river σ)])),
  (ad 4, .inl (cA, 6, .inl (c_kinds σ))),
  (ad 5, .inr (2, [.ref (ad 6), .ref (ad 7), .ref (ad 8), .ref (ad 9), .ref (ad 10), .ref (ad 11), .ref (ad 12), .int (c_asked σ), .int (c_days σ), .int (c_changes σ)])),
  (ad 6, .inl (cA, 6, .inl (c_nexts σ))),
  (ad 7, .inl (cA, 6, .inl (c_lsts σ))),
  (ad 8, .inl (cA, 3, .inl (c_heard σ))),
  (ad 9, .inl (cA, 3, .inl (c_last σ))),
  (ad 10, .inl (cA, 3, .inl (c_denied σ))),
  (ad 11, .inl (cA, 8, .inl (c_whom σ))),
  (ad 12, .inl (cA, 8, .inl (c_wday σ))),
  (ad 13, .inr (2, [.ref (ad 14), .ref (ad 15), .ref (ad 16), .ref (ad 17), .ref (ad 18), .ref (ad 19), .ref (ad 20), .int (c_kasked σ), .int (c_kdays σ), .int (c_kchanges σ)])),
  (ad 14, .inl (cA, 6, .inl (c_knexts σ))),
  (ad 15, .inl (cA, 6, .inl (c_klsts σ))),
  (ad 16, .inl (cA, 3, .inl (c_kheard σ))),
  (ad 17, .inl (cA, 3, .inl (c_klast σ))),
  (ad 18, .inl (cA, 3, .inl (c_kdenied σ))),
  (ad 19, .inl (cA, 8, .inl (c_kwhom σ))),
  (ad 20, .inl (cA, 8, .inl (c_kwday σ))),
  (ad 21, .inr (4, [.ref (ad 3), .ref (ad 5)])),
  (ad 22, .inr (3, [.ref (ad 3), .ref (ad 5), .ref (ad 21), .ref (ad 23)])),
  (ad 23, .inl (cA, 7, .inl (c_left σ)))]
abbrev SM : Type := ((((((Nat → Int32) × Int32) × Int32) × ((Int32 × Int32) × Int32)) × (((Int32 × Int32) × (Nat → Int32)) × ((Nat → Int32) × Int32))) × (((((Nat → Int32) × (Nat → Int32)) × Int32) × ((Int32 × Int32) × Int32)) × (((Int32 × (Nat → Int32)) × (Nat → Int32)) × ((Nat → Int32) × Int64))))
def m_page (σ : SM) : (Nat → Int32) := σ.1.1.1.1.1
def sm_page (σ : SM) (v : (Nat → Int32)) : SM := (((((v, σ.1.1.1.1.2), σ.1.1.1.2), σ.1.1.2), σ.1.2), σ.2)
def m_pageMany (σ : SM) : Int32 := σ.1.1.1.1.2
def sm_pageMany (σ : SM) (v : Int32) : SM := (((((σ.1.1.1.1.1, v), σ.1.1.1.2), σ.1.1.2), σ.1.2), σ.2)
def m_endAt (σ : SM) : Int32 := σ.1.1.1.2
def sm_endAt (σ : SM) (v : Int32) : SM := ((((σ.1.1.1.1, v), σ.1.1.2), σ.1.2), σ.2)
def m_people (σ : SM) : Int32 := σ.1.1.2.1.1
def sm_people (σ : SM) (v : Int32) : SM := (((σ.1.1.1, ((v, σ.1.1.2.1.2), σ.1.1.2.2)), σ.1.2), σ.2)
def m_river (σ : SM) : Int32 := σ.1.1.2.1.2
def sm_river (σ : SM) (v : Int32) : SM := (((σ.1.1.1, ((σ.1.1.2.1.1, v), σ.1.1.2.2)), σ.1.2), σ.2)
def m_days (σ : SM) : Int32 := σ.1.1.2.2
def sm_days (σ : SM) (v : Int32) : SM := (((σ.1.1.1, (σ.1.1.2.1, v)), σ.1.2), σ.2)
def m_changes (σ : SM) : Int32 := σ.1.2.1.1.1
def sm_changes (σ : SM) (v : Int32) : SM := ((σ.1.1, (((v, σ.1.2.1.1.2), σ.1.2.1.2), σ.1.2.2)), σ.2)
def m_hillsRead (σ : SM) : Int32 := σ.1.2.1.1.2
def sm_hillsRead (σ : SM) (v : Int32) : SM := ((σ.1.1, (((σ.1.2.1.1.1, v), σ.1.2.1.2), σ.1.2.2)), σ.2)
def m_rows (σ : SM) : (Nat → Int32) := σ.1.2.1.2
def sm_rows (σ : SM) (v : (Nat → Int32)) : SM := ((σ.1.1, ((σ.1.2.1.1, v), σ.1.2.2)), σ.2)
def m_tunnels (σ : SM) : (Nat → Int32) := σ.1.2.2.1
def sm_tunnels (σ : SM) (v : (Nat → Int32)) : SM := ((σ.1.1, (σ.1.2.1, (v, σ.1.2.2.2))), σ.2)
def m_askedMany (σ : SM) : Int32 := σ.1.2.2.2
def sm_askedMany (σ : SM) (v : Int32) : SM := ((σ.1.1, (σ.1.2.1, (σ.1.2.2.1, v))), σ.2)
def m_askeds (σ : SM) : (Nat → Int32) := σ.2.1.1.1.1
def sm_askeds (σ : SM) (v : (Nat → Int32)) : SM := (σ.1, ((((v, σ.2.1.1.1.2), σ.2.1.1.2), σ.2.1.2), σ.2.2))
def m_parts (σ : SM) : (Nat → Int32) := σ.2.1.1.1.2
def sm_parts (σ : SM) (v : (Nat → Int32)) : SM := (σ.1, ((((σ.2.1.1.1.1, v), σ.2.1.1.2), σ.2.1.2), σ.2.2))
def m_seedNow (σ : SM) : Int32 := σ.2.1.1.2
def sm_seedNow (σ : SM) (v : Int32) : SM := (σ.1, (((σ.2.1.1.1, v), σ.2.1.2), σ.2.2))
def m_keptHill (σ : SM) : Int32 := σ.2.1.2.1.1
def sm_keptHill (σ : SM) (v : Int32) : SM := (σ.1, ((σ.2.1.1, ((v, σ.2.1.2.1.2), σ.2.1.2.2)), σ.2.2))
def m_keptDays (σ : SM) : Int32 := σ.2.1.2.1.2
def sm_keptDays (σ : SM) (v : Int32) : SM := (σ.1, ((σ.2.1.1, ((σ.2.1.2.1.1, v), σ.2.1.2.2)), σ.2.2))
def m_keptChanges (σ : SM) : Int32 := σ.2.1.2.2
def sm_keptChanges (σ : SM) (v : Int32) : SM := (σ.1, ((σ.2.1.1, (σ.2.1.2.1, v)), σ.2.2))
def m_keptAsked (σ : SM) : Int32 := σ.2.2.1.1.1
def sm_keptAsked (σ : SM) (v : Int32) : SM := (σ.1, (σ.2.1, (((v, σ.2.2.1.1.2), σ.2.2.1.2), σ.2.2.2)))
def m_keptRows (σ : SM) : (Nat → Int32) := σ.2.2.1.1.2
def sm_keptRows (σ : SM) (v : (Nat → Int32)) : SM := (σ.1, (σ.2.1, (((σ.2.2.1.1.1, v), σ.2.2.1.2), σ.2.2.2)))
def m_keptTunnels (σ : SM) : (Nat → Int32) := σ.2.2.1.2
def sm_keptTunnels (σ : SM) (v : (Nat → Int32)) : SM := (σ.1, (σ.2.1, ((σ.2.2.1.1, v), σ.2.2.2)))
def m_keptAskeds (σ : SM) : (Nat → Int32) := σ.2.2.2.1
def sm_keptAskeds (σ : SM) (v : (Nat → Int32)) : SM := (σ.1, (σ.2.1, (σ.2.2.1, (v, σ.2.2.2.2))))
def m_hash (σ : SM) : Int64 := σ.2.2.2.2
def sm_hash (σ : SM) (v : Int64) : SM := (σ.1, (σ.2.1, (σ.2.2.1, (σ.2.2.2.1, v))))
def wM (ad : Nat → Nat) (cA : ClassId) (σ : SM) : va_W := [(ad 0, .inr (6, [.ref (ad 1), .int (m_pageMany σ), .int (m_endAt σ), .int (m_people σ), .int (m_river σ), .int (m_days σ), .int (m_changes σ), .int (m_hillsRead σ), .ref (ad 2), .ref (ad 3), .int (m_askedMany σ), .ref (ad 4), .ref (ad 5), .int (m_seedNow σ), .int (m_keptHill σ), .int (m_keptDays σ), .int (m_keptChanges σ), .int (m_keptAsked σ), .ref (ad 6), .ref (ad 7), .ref (ad 8), .long (m_hash σ)])),
  (ad 1, .inl (cA, 22, .inl (m_page σ))),
  (ad 2, .inl (cA, 12, .inl (m_rows σ))),
  (ad 3, .inl (cA, 9, .inl (m_tunnels σ))),
  (ad 4, .inl (cA, 16, .inl (m_askeds σ))),
  (ad 5, .inl (cA, 8, .inl (m_parts σ))),
  (ad 6, .inl (cA, 12, .inl (m_keptRows σ))),
  (ad 7, .inl (cA, 9, .inl (m_keptTunnels σ))),
  (ad 8, .inl (cA, 16, .inl (m_keptAskeds σ)))]
end
section
section ACCc
variable {p : Program} {l : Launch} {e : Env} {R : Room} {s : State} {m : MethodId} {args : Array Value} {below : List Frame} {meth : Method} {c : Code} {H : Heap} {locs : List Loc} {cells slots : Nat} {Q : State → Prop}
variable {cc : ByteArray} {pc : Nat} {ls : Array Slot} {rest : List Value} {D : va_G} {A : Nat → Prop} {y0 : MethodName} {nL idx : Nat} {ret0 : Option FieldType} {own : String} {ad : Nat → Nat} {cA : ClassId}
variable {σ : SC}
theorem gc_0_page (CF : CallFix p m c cc nL s args (wA y0 cc nL ret0) own) (hK : va_K D vwCl [(cA, .int)] s) (hP : va_P D vwCl (wC ad cA σ) H) (hl : Cond.fieldLink own idx "DugBySaid" "page" "LDugBySaid$Page;" ∈ wsA) (hdg : decode cc pc = .ok (.getfield idx, 3)) (kk : W p l e R s m args below meth c H locs cells slots Q (F0 m (pc + 3) ls (.ref (ad 1) :: rest))) : W p l e R s m args below meth c H locs cells slots Q (F0 m pc ls (.ref (ad 0) :: rest)) := va_get (D := D) (ci := 5) (C := RX5) (T := TX5) (N := 8) CF.1 CF.2.1 CF.2.2.2.2 (fun w h => List.mem_cons_of_mem _ (in_X5 w h)) CF.2.2.2.1 hK hP 0 rfl rfl 0 (by decide) (CF.2.2.2.2 _ (List.mem_cons_of_mem _ hl)) (fun _ h => h) rfl hdg kk
theorem gc_0_ground (CF : CallFix p m c cc nL s args (wA y0 cc nL ret0) own) (hK : va_K D vwCl [(cA, .int)] s) (hP : va_P D vwCl (wC ad cA σ) H) (hl : Cond.fieldLink own idx "DugBySaid" "ground" "LDugBySaid$Hill;" ∈ wsA) (hdg : decode cc pc = .ok (.getfield idx, 3)) (kk : W p l e R s m args below meth c H locs cells slots Q (F0 m (pc + 3) ls (.ref (ad 3) :: rest))) : W p l e R s m args below meth c H locs cells slots Q (F0 m pc ls (.ref (ad 0) :: rest)) := va_get (D := D) (ci := 5) (C := RX5) (T := TX5) (N := 8) CF.1 CF.2.1 CF.2.2.2.2 (fun w h => List.mem_cons_of_mem _ (in_X5 w h)) CF.2.2.2.1 hK hP 0 rfl rfl 1 (by decide) (CF.2.2.2.2 _ (List.mem_cons_of_mem _ hl)) (fun _ h => h) rfl hdg kk
theorem gc_0_now (CF : CallFix p m c cc nL s args (wA y0 cc nL ret0) own) (hK : va_K D vwCl [(cA, .int)] s) (hP : va_P D vwCl (wC ad cA σ) H) (hl : Cond.fieldLink own idx "DugBySaid" "now" "LDugBySaid$Past;" ∈ wsA) (hdg : decode cc pc = .ok (.getfield idx, 3)) (kk : W p l e R s m args below meth c H locs cells slots Q (F0 m (pc + 3) ls (.ref (ad 5) :: rest))) : W p l e R s m args below meth c H locs cells slots Q (F0 m pc ls (.ref (ad 0) :: rest)) := va_get (D := D) (ci := 5) (C := RX5) (T := TX5) (N := 8) CF.1 CF.2.1 CF.2.2.2.2 (fun w h => List.mem_cons_of_mem _ (in_X5 w h)) CF.2.2.2.1 hK hP 0 rfl rfl 2 (by decide) (CF.2.2.2.2 _ (List.mem_cons_of_mem _ hl)) (fun _ h => h) rfl hdg kk
theorem gc_0_kept (CF : CallFix p m c cc nL s args (wA y0 cc nL ret0) own) (hK : va_K D vwCl [(cA, .int)] s) (hP : va_P D vwCl (wC ad cA σ) H) (hl : Cond.fieldLink own idx "DugBySaid" "kept" "LDugBySaid$Past;" ∈ wsA) (hdg : decode cc pc = .ok (.getfield idx, 3)) (kk : W p l e R s m args below meth c H locs cells slots Q (F0 m (pc + 3) ls (.ref (ad 13) :: rest))) : W p l e R s m args below meth c H locs cells slots Q (F0 m pc ls (.ref (ad 0) :: rest)) := va_get (D := D) (ci := 5) (C := RX5) (T := TX5) (N := 8) CF.1 CF.2.1 CF.2.2.2.2 (fun w h => List.mem_cons_of_mem _ (in_X5 w h)) CF.2.2.2.1 hK hP 0 rfl rfl 3 (by decide) (CF.2.2.2.2 _ (List.mem_cons_of_mem _ hl)) (fun _ h => h) rfl hdg kk
theorem gc_0_talk (CF : CallFix p m c cc nL s args (wA y0 cc nL ret0) own) (hK : va_K D vwCl [(cA, .int)] s) (hP : va_P D vwCl (wC ad cA σ) H) (hl : Cond.fieldLink own idx "DugBySaid" "talk" "LDugBySaid$Talk;" ∈ wsA) (hdg : decode cc pc = .ok (.getfield idx, 3)) (kk : W p l e R s m args below meth c H locs cells slots Q (F0 m (pc + 3) ls (.ref (ad 21) :: rest))) : W p l e R s m args below meth c H locs cells slots Q (F0 m pc ls (.ref (ad 0) :: rest)) := va_get (D := D) (ci := 5) (C := RX5) (T := TX5) (N := 8) CF.1 CF.2.1 CF.2.2.2.2 (fun w h => List.mem_cons_of_mem _ (in_X5 w h)) CF.2.2.2.1 hK hP 0 rfl rfl 4 (by decide) (CF.2.2.2.2 _ (List.mem_cons_of_mem _ hl)) (fun _ h => h) rfl hdg kk
theorem gc_0_riddle (CF : CallFix p m c cc nL s args (wA y0 cc nL ret0) own) (hK : va_K D vwCl [(cA, .int)] s) (hP : va_P D vwCl (wC ad cA σ) H) (hl : Cond.fieldLink own idx "DugBySaid" "riddle" "LDugBySaid$Riddle;" ∈ wsA) (hdg : decode cc pc = .ok (.getfield idx, 3)) (kk : W p l e R s m args below meth c H locs cells slots Q (F0 m (pc + 3) ls (.ref (ad 22) :: rest))) : W p l e R s m args below meth c H locs cells slots Q (F0 m pc ls (.ref (ad 0) :: rest)) := va_get (D := D) (ci := 5) (C := RX5) (T := TX5) (N := 8) CF.1 CF.2.1 CF.2.2.2.2 (fun w h => List.mem_cons_of_mem _ (in_X5 w h)) CF.2.2.2.1 hK hP 0 rfl rfl 5 (by decide) (CF.2.2.2.2 _ (List.mem_cons_of_mem _ hl)) (fun _ h => h) rfl hdg kk
theorem wc_hasImage (v : Int32) : (wC ad cA σ).set 0 (ad 0, .inr (5, ([.ref (ad 1), .ref (ad 3), .ref (ad 5), .ref (ad 13), .ref (ad 21), .ref (ad 22), .int (c_hasImage σ), .int (c_readings σ)] : List Value).set 6 (.int v))) = wC ad cA (sc_hasImage σ v) := rfl
theorem gc_0_hasImage (CF : CallFix p m c cc nL s args (wA y0 cc nL ret0) own) (hK : va_K D vwCl [(cA, .int)] s) (hP : va_P D vwCl (wC ad cA σ) H) (hl : Cond.fieldLink own idx "DugBySaid" "hasImage" "Z" ∈ wsA) (hdg : decode cc pc = .ok (.getfield idx, 3)) (kk : W p l e R s m args below meth c H locs cells slots Q (F0 m (pc + 3) ls (.int (c_hasImage σ) :: rest))) : W p l e R s m args below meth c H locs cells slots Q (F0 m pc ls (.ref (ad 0) :: rest)) := va_get (D := D) (ci := 5) (C := RX5) (T := TX5) (N := 8) CF.1 CF.2.1 CF.2.2.2.2 (fun w h => List.mem_cons_of_mem _ (in_X5 w h)) CF.2.2.2.1 hK hP 0 rfl rfl 6 (by decide) (CF.2.2.2.2 _ (List.mem_cons_of_mem _ hl)) (fun _ h => h) rfl hdg kk
theorem pc_0_hasImage (CF : CallFix p m c cc nL s args (wA y0 cc nL ret0) own) (hK : va_K D vwCl [(cA, .int)] s) (hP : va_P D vwCl (wC ad cA σ) H) (hD : va_D A (wC ad cA σ)) (hS : va_S A s.heap H locs) {x : Int32} (hz : narrow .boolean (.int x) = .int x ∧ fits .boolean (.int x) = true) (hl : Cond.fieldLink own idx "DugBySaid" "hasImage" "Z" ∈ wsA) (hdg : decode cc pc = .ok (.putfield idx, 3)) (kk : ∀ (H1 : Heap) (locs1 : List Loc), va_P D vwCl (wC ad cA (sc_hasImage σ x)) H1 → va_D A (wC ad cA (sc_hasImage σ x)) → va_S A s.heap H1 locs1 → W p l e R s m args below meth c H1 locs1 cells slots Q (F0 m (pc + 3) ls rest)) : W p l e R s m args below meth c H locs cells slots Q (F0 m pc ls (.int x :: .ref (ad 0) :: rest)) := va_put (ty := .boolean) (v := .int x) (D := D) (ci := 5) (C := RX5) (T := TX5) (N := 8) CF.1 CF.2.1 CF.2.2.2.2 (fun w h => List.mem_cons_of_mem _ (in_X5 w h)) tyX5 tyX5_ok nmX5 CF.2.2.2.1 hK hP hD hS 0 rfl rfl 6 (by decide) (CF.2.2.2.2 _ (List.mem_cons_of_mem _ hl)) (fun _ h => h) rfl (by decide +kernel) hz.1 hz.2 (Nat.le_of_ble_eq_true rfl) hdg (fun H1 locs1 h1 h2 h3 => kk H1 locs1 (Eq.mp (congrArg (fun w => va_P D vwCl w H1) (wc_hasImage _)) h1) (Eq.mp (congrArg (fun w => va_D A w) (wc_hasImage _)) h2) h3)
theorem wc_readings (v : Int32) : (wC ad cA σ).set 0 (ad 0, .inr (5, ([.ref (ad 1), .ref (ad 3), .ref (ad 5), .ref (ad 13), .ref (ad 21), .ref (ad 22), .int (c_hasImage σ), .int (c_readings σ)] : List Value).set 7 (.int v))) = wC ad cA (sc_readings σ v) := rfl
theorem gc_0_readings (CF : CallFix p m c cc nL s args (wA y0 cc nL ret0) own) (hK : va_K D vwCl [(cA, .int)] s) (hP : va_P D vwCl (wC ad cA σ) H) (hl : Cond.fieldLink own idx "DugBySaid" "readings" "I" ∈ wsA) (hdg : decode cc pc = .ok (.getfield idx, 3)) (kk : W p l e R s m args below meth c H locs cells slots Q (F0 m (pc + 3) ls (.int (c_readings σ) :: rest))) : W p l e R s m args below meth c H locs cells slots Q (F0 m pc ls (.ref (ad 0) :: rest)) := va_get (D := D) (ci := 5) (C := RX5) (T := TX5) (N := 8) CF.1 CF.2.1 CF.2.2.2.2 (fun w h => List.mem_cons_of_mem _ (in_X5 w h)) CF.2.2.2.1 hK hP 0 rfl rfl 7 (by decide) (CF.2.2.2.2 _ (List.mem_cons_of_mem _ hl)) (fun _ h => h) rfl hdg kk
theorem pc_0_readings (CF : CallFix p m c cc nL s args (wA y0 cc nL ret0) own) (hK : va_K D vwCl [(cA, .int)] s) (hP : va_P D vwCl (wC ad cA σ) H) (hD : va_D A (wC ad cA σ)) (hS : va_S A s.heap H locs) {x : Int32} (hl : Cond.fieldLink own idx "DugBySaid" "readings" "I" ∈ wsA) (hdg : decode cc pc = .ok (.putfield idx, 3)) (kk : ∀ (H1 : Heap) (locs1 : List Loc), va_P D vwCl (wC ad cA (sc_readings σ x)) H1 → va_D A (wC ad cA (sc_readings σ x)) → va_S A s.heap H1 locs1 → W p l e R s m args below meth c H1 locs1 cells slots Q (F0 m (pc + 3) ls rest)) : W p l e R s m args below meth c H locs cells slots Q (F0 m pc ls (.int x :: .ref (ad 0) :: rest)) := va_put (ty := .int) (v := .int x) (D := D) (ci := 5) (C := RX5) (T := TX5) (N := 8) CF.1 CF.2.1 CF.2.2.2.2 (fun w h => List.mem_cons_of_mem _ (in_X5 w h)) tyX5 tyX5_ok nmX5 CF.2.2.2.1 hK hP hD hS 0 rfl rfl 7 (by decide) (CF.2.2.2.2 _ (List.mem_cons_of_mem _ hl)) (fun _ h => h) rfl (by decide +kernel) rfl rfl (Nat.le_of_ble_eq_true rfl) hdg (fun H1 locs1 h1 h2 h3 => kk H1 locs1 (Eq.mp (congrArg (fun w => va_P D vwCl w H1) (wc_readings _)) h1) (Eq.mp (congrArg (fun w => va_D A w) (wc_readings _)) h2) h3)
theorem gc_1_codes (CF : CallFix p m c cc nL s args (wA y0 cc nL ret0) own) (hK : va_K D vwCl [(cA, .int)] s) (hP : va_P D vwCl (wC ad cA σ) H) (hl : Cond.fieldLink own idx "DugBySaid$Page" "codes" "[I" ∈ wsA) (hdg : decode cc pc = .ok (.getfield idx, 3)) (kk : W p l e R s m args below meth c H locs cells slots Q (F0 m (pc + 3) ls (.ref (ad 2) :: rest))) : W p l e R s m args below meth c H locs cells slots Q (F0 m pc ls (.ref (ad 1) :: rest)) := va_get (D := D) (ci := 1) (C := RX1) (T := TX1) (N := 2) CF.1 CF.2.1 CF.2.2.2.2 (fun w h => List.mem_cons_of_mem _ (in_X1 w h)) CF.2.2.2.1 hK hP 1 rfl rfl 0 (by decide) (CF.2.2.2.2 _ (List.mem_cons_of_mem _ hl)) (fun _ h => h) rfl hdg kk
theorem wc_plen (v : Int32) : (wC ad cA σ).set 1 (ad 1, .inr (1, ([.ref (ad 2), .int (c_plen σ)] : List Value).set 1 (.int v))) = wC ad cA (sc_plen σ v) := rfl
theorem gc_1_length (CF : CallFix p m c cc nL s args (wA y0 cc nL ret0) own) (hK : va_K D vwCl [(cA, .int)] s) (hP : va_P D vwCl (wC ad cA σ) H) (hl : Cond.fieldLink own idx "DugBySaid$Page" "length" "I" ∈ wsA) (hdg : decode cc pc = .ok (.getfield idx, 3)) (kk : W p l e R s m args below meth c H locs cells slots Q (F0 m (pc + 3) ls (.int (c_plen σ) :: rest))) : W p l e R s m args below meth c H locs cells slots Q (F0 m pc ls (.ref (ad 1) :: rest)) := va_get (D := D) (ci := 1) (C := RX1) (T := TX1) (N := 2) CF.1 CF.2.1 CF.2.2.2.2 (fun w h => List.mem_cons_of_mem _ (in_X1 w h)) CF.2.2.2.1 hK hP 1 rfl rfl 1 (by decide) (CF.2.2.2.2 _ (List.mem_cons_of_mem _ hl)) (fun _ h => h) rfl hdg kk
theorem pc_1_length (CF : CallFix p m c cc nL s args (wA y0 cc nL ret0) own) (hK : va_K D vwCl [(cA, .int)] s) (hP : va_P D vwCl (wC ad cA σ) H) (hD : va_D A (wC ad cA σ)) (hS : va_S A s.heap H locs) {x : Int32} (hl : Cond.fieldLink own idx "DugBySaid$Page" "length" "I" ∈ wsA) (hdg : decode cc pc = .ok (.putfield idx, 3)) (kk : ∀ (H1 : Heap) (locs1 : List Loc), va_P D vwCl (wC ad cA (sc_plen σ x)) H1 → va_D A (wC ad cA (sc_plen σ x)) → va_S A s.heap H1 locs1 → W p l e R s m args below meth c H1 locs1 cells slots Q (F0 m (pc + 3) ls rest)) : W p l e R s m args below meth c H locs cells slots Q (F0 m pc ls (.int x :: .ref (ad 1) :: rest)) := va_put (ty := .int) (v := .int x) (D := D) (ci := 1) (C := RX1) (T := TX1) (N := 2) CF.1 CF.2.1 CF.2.2.2.2 (fun w h => List.mem_cons_of_mem _ (in_X1 w h)) tyX1 tyX1_ok nmX1 CF.2.2.2.1 hK hP hD hS 1 rfl rfl 1 (by decide) (CF.2.2.2.2 _ (List.mem_cons_of_mem _ hl)) (fun _ h => h) rfl (by decide +kernel) rfl rfl (Nat.le_of_ble_eq_true rfl) hdg (fun H1 locs1 h1 h2 h3 => kk H1 locs1 (Eq.mp (congrArg (fun w => va_P D vwCl w H1) (wc_plen _)) h1) (Eq.mp (congrArg (fun w => va_D A w) (wc_plen _)) h2) h3)
theorem gcN_1_length (CF : CallFix p m c cc nL s args (wA y0 cc nL ret0) own) (hK : va_K D vwCl [(cA, .int)] s) (hP : va_P D vwCl (wC ad cA σ) H) (hN : NW s) (hl : (own, idx, "DugBySaid$Page", "length", "I", "DugBySaid") ∈ nwF) (hdg : decode cc pc = .ok (.getfield idx, 3)) (kk : W p l e R s m args below meth c H locs cells slots Q (F0 m (pc + 3) ls (.int (c_plen σ) :: rest))) : W p l e R s m args below meth c H locs cells slots Q (F0 m pc ls (.ref (ad 1) :: rest)) := va_getN (D := D) (ci := 1) (C := RX1) (T := TX1) (N := 2) CF.1 CF.2.1 CF.2.2.2.2 (fun w h => List.mem_cons_of_mem _ (in_X1 w h)) CF.2.2.2.1 hK hP 1 rfl rfl 1 (by decide) (va_Nw.use rfl (hN.1 _ hl)) (fun _ h => h) rfl hdg kk
theorem pcN_1_length (CF : CallFix p m c cc nL s args (wA y0 cc nL ret0) own) (hK : va_K D vwCl [(cA, .int)] s) (hP : va_P D vwCl (wC ad cA σ) H) (hD : va_D A (wC ad cA σ)) (hS : va_S A s.heap H locs) {x : Int32} (hN : NW s) (hl : (own, idx, "DugBySaid$Page", "length", "I", "DugBySaid") ∈ nwF) (hdg : decode cc pc = .ok (.putfield idx, 3)) (kk : ∀ (H1 : Heap) (locs1 : List Loc), va_P D vwCl (wC ad cA (sc_plen σ x)) H1 → va_D A (wC ad cA (sc_plen σ x)) → va_S A s.heap H1 locs1 → W p l e R s m args below meth c H1 locs1 cells slots Q (F0 m (pc + 3) ls rest)) : W p l e R s m args below meth c H locs cells slots Q (F0 m pc ls (.int x :: .ref (ad 1) :: rest)) := va_putN (ty := .int) (v := .int x) (D := D) (ci := 1) (C := RX1) (T := TX1) (N := 2) CF.1 CF.2.1 CF.2.2.2.2 (fun w h => List.mem_cons_of_mem _ (in_X1 w h)) tyX1 tyX1_ok nmX1 CF.2.2.2.1 hK hP hD hS 1 rfl rfl 1 (by decide) (va_Nw.use rfl (hN.1 _ hl)) (fun _ h => h) rfl (by decide +kernel) rfl rfl (Nat.le_of_ble_eq_true rfl) hdg (fun H1 locs1 h1 h2 h3 => kk H1 locs1 (Eq.mp (congrArg (fun w => va_P D vwCl w H1) (wc_plen _)) h1) (Eq.mp (congrArg (fun w => va_D A w) (wc_plen _)) h2) h3)
theorem lc_codes (hx : p.tables.exec = Jvm.exec) (hb : c.code = cc) (hK : va_K D vwCl [(cA, .int)] s) (hP : va_P D vwCl (wC ad cA σ) H) {i : Int32} (hin : inB i 22) (hdg : decode cc pc = .ok (.iaload, 1)) (kk : W p l e R s m args below meth c H locs cells slots Q (F0 m (pc + 1) ls (.int (c_codes σ i.toNatClampNeg) :: rest))) : W p l e R s m args below meth c H locs cells slots Q (F0 m pc ls (.int i :: .ref (ad 2) :: rest)) := va_iald hx hb hK hP 2 0 rfl rfl hin hdg kk
theorem wc_codes (v : Nat → Int32) : (wC ad cA σ).set 2 (ad 2, .inl (cA, 22, .inl v)) = wC ad cA (sc_codes σ v) := rfl
theorem ac_codes (hx : p.tables.exec = Jvm.exec) (hb : c.code = cc) (hK : va_K D vwCl [(cA, .int)] s) (hP : va_P D vwCl (wC ad cA σ) H) (hD : va_D A (wC ad cA σ)) (hS : va_S A s.heap H locs) {i x : Int32} (hin : inB i 22) (hdg : decode cc pc = .ok (.iastore, 1)) (kk : ∀ (H1 : Heap) (locs1 : List Loc), va_P D vwCl (wC ad cA (sc_codes σ (upd (c_codes σ) i.toNatClampNeg x))) H1 → va_D A (wC ad cA (sc_codes σ (upd (c_codes σ) i.toNatClampNeg x))) → va_S A s.heap H1 locs1 → W p l e R s m args below meth c H1 locs1 cells slots Q (F0 m (pc + 1) ls rest)) : W p l e R s m args below meth c H locs cells slots Q (F0 m pc ls (.int x :: .int i :: .ref (ad 2) :: rest)) := va_iast hx hb hK hP hD hS 2 0 rfl rfl hin hdg (fun H1 locs1 h1 h2 h3 => kk H1 locs1 (Eq.mp (congrArg (fun w => va_P D vwCl w H1) (wc_codes _)) h1) (Eq.mp (congrArg (fun w => va_D A w) (wc_codes _)) h2) h3)
theorem nc_codes (hx : p.tables.exec = Jvm.exec) (hb : c.code = cc) (hK : va_K D vwCl [(cA, .int)] s) (hP : va_P D vwCl (wC ad cA σ) H) (hdg : decode cc pc = .ok (.arraylength, 1)) (kk : W p l e R s m args below meth c H locs cells slots Q (F0 m (pc + 1) ls (.int 22 :: rest))) : W p l e R s m args below meth c H locs cells slots Q (F0 m pc ls (.ref (ad 2) :: rest)) := va_alen hx hb hK hP 2 0 rfl rfl (v := 22) rfl hdg kk
theorem gc_3_kinds (CF : CallFix p m c cc nL s args (wA y0 cc nL ret0) own) (hK : va_K D vwCl [(cA, .int)] s) (hP : va_P D vwCl (wC ad cA σ) H) (hl : Cond.fieldLink own idx "DugBySaid$Hill" "kinds" "[I" ∈ wsA) (hdg : decode cc pc = .ok (.getfield idx, 3)) (kk : W p l e R s m args below meth c H locs cells slots Q (F0 m (pc + 3) ls (.ref (ad 4) :: rest))) : W p l e R s m args below meth c H locs cells slots Q (F0 m pc ls (.ref (ad 3) :: rest)) := va_get (D := D) (ci := 0) (C := RX0) (T := TX0) (N := 3) CF.1 CF.2.1 CF.2.2.2.2 (fun w h => List.mem_cons_of_mem _ (in_X0 w h)) CF.2.2.2.1 hK hP 3 rfl rfl 0 (by decide) (CF.2.2.2.2 _ (List.mem_cons_of_mem _ hl)) (fun _ h => h) rfl hdg kk
theorem wc_people (v : Int32) : (wC ad cA σ).set 3 (ad 3, .inr (0, ([.ref (ad 4), .int (c_people σ), .int (c_river σ)] : List Value).set 1 (.int v))) = wC ad cA (sc_people σ v) := rfl
theorem gc_3_people (CF : CallFix p m c cc nL s args (wA y0 cc nL ret0) own) (hK : va_K D vwCl [(cA, .int)] s) (hP : va_P D vwCl (wC ad cA σ) H) (hl : Cond.fieldLink own idx "DugBySaid$Hill" "people" "I" ∈ wsA) (hdg : decode cc pc = .ok (.getfield idx, 3)) (kk : W p l e R s m args below meth c H locs cells slots Q (F0 m (pc + 3) ls (.int (c_people σ) :: rest))) : W p l e R s m args below meth c H locs cells slots Q (F0 m pc ls (.ref (ad 3) :: rest)) := va_get (D := D) (ci := 0) (C := RX0) (T := TX0) (N := 3) CF.1 CF.2.1 CF.2.2.2.2 (fun w h => List.mem_cons_of_mem _ (in_X0 w h)) CF.2.2.2.1 hK hP 3 rfl rfl 1 (by decide) (CF.2.2.2.2 _ (List.mem_cons_of_mem _ hl)) (fun _ h => h) rfl hdg kk
theorem pc_3_people (CF : CallFix p m c cc nL s args (wA y0 cc nL ret0) own) (hK : va_K D vwCl [(cA, .int)] s) (hP : va_P D vwCl (wC ad cA σ) H) (hD : va_D A (wC ad cA σ)) (hS : va_S A s.heap H locs) {x : Int32} (hl : Cond.fieldLink own idx "DugBySaid$Hill" "people" "I" ∈ wsA) (hdg : decode cc pc = .ok (.putfield idx, 3)) (kk : ∀ (H1 : Heap) (locs1 : List Loc), va_P D vwCl (wC ad cA (sc_people σ x)) H1 → va_D A (wC ad cA (sc_people σ x)) → va_S A s.heap H1 locs1 → W p l e R s m args below meth c H1 locs1 cells slots Q (F0 m (pc + 3) ls rest)) : W p l e R s m args below meth c H locs cells slots Q (F0 m pc ls (.int x :: .ref (ad 3) :: rest)) := va_put (ty := .int) (v := .int x) (D := D) (ci := 0) (C := RX0) (T := TX0) (N := 3) CF.1 CF.2.1 CF.2.2.2.2 (fun w h => List.mem_cons_of_mem _ (in_X0 w h)) tyX0 tyX0_ok nmX0 CF.2.2.2.1 hK hP hD hS 3 rfl rfl 1 (by decide) (CF.2.2.2.2 _ (List.mem_cons_of_mem _ hl)) (fun _ h => h) rfl (by decide +kernel) rfl rfl (Nat.le_of_ble_eq_true rfl) hdg (fun H1 locs1 h1 h2 h3 => kk H1 locs1 (Eq.mp (congrArg (fun w => va_P D vwCl w H1) (wc_people _)) h1) (Eq.mp (congrArg (fun w => va_D A w) (wc_people _)) h2) h3)
theorem gcN_3_people (CF : CallFix p m c cc nL s args (wA y0 cc nL ret0) own) (hK : va_K D vwCl [(cA, .int)] s) (hP : va_P D vwCl (wC ad cA σ) H) (hN : NW s) (hl : (own, idx, "DugBySaid$Hill", "people", "I", "DugBySaid") ∈ nwF) (hdg : decode cc pc = .ok (.getfield idx, 3)) (kk : W p l e R s m args below meth c H locs cells slots Q (F0 m (pc + 3) ls (.int (c_people σ) :: rest))) : W p l e R s m args below meth c H locs cells slots Q (F0 m pc ls (.ref (ad 3) :: rest)) := va_getN (D := D) (ci := 0) (C := RX0) (T := TX0) (N := 3) CF.1 CF.2.1 CF.2.2.2.2 (fun w h => List.mem_cons_of_mem _ (in_X0 w h)) CF.2.2.2.1 hK hP 3 rfl rfl 1 (by decide) (va_Nw.use rfl (hN.1 _ hl)) (fun _ h => h) rfl hdg kk
theorem pcN_3_people (CF : CallFix p m c cc nL s args (wA y0 cc nL ret0) own) (hK : va_K D vwCl [(cA, .int)] s) (hP : va_P D vwCl (wC ad cA σ) H) (hD : va_D A (wC ad cA σ)) (hS : va_S A s.heap H locs) {x : Int32} (hN : NW s) (hl : (own, idx, "DugBySaid$Hill", "people", "I", "DugBySaid") ∈ nwF) (hdg : decode cc pc = .ok (.putfield idx, 3)) (kk : ∀ (H1 : Heap) (locs1 : List Loc), va_P D vwCl (wC ad cA (sc_people σ x)) H1 → va_D A (wC ad cA (sc_people σ x)) → va_S A s.heap H1 locs1 → W p l e R s m args below meth c H1 locs1 cells slots Q (F0 m (pc + 3) ls rest)) : W p l e R s m args below meth c H locs cells slots Q (F0 m pc ls (.int x :: .ref (ad 3) :: rest)) := va_putN (ty := .int) (v := .int x) (D := D) (ci := 0) (C := RX0) (T := TX0) (N := 3) CF.1 CF.2.1 CF.2.2.2.2 (fun w h => List.mem_cons_of_mem _ (in_X0 w h)) tyX0 tyX0_ok nmX0 CF.2.2.2.1 hK hP hD hS 3 rfl rfl 1 (by decide) (va_Nw.use rfl (hN.1 _ hl)) (fun _ h => h) rfl (by decide +kernel) rfl rfl (Nat.le_of_ble_eq_true rfl) hdg (fun H1 locs1 h1 h2 h3 => kk H1 locs1 (Eq.mp (congrArg (fun w => va_P D vwCl w H1) (wc_people _)) h1) (Eq.mp (congrArg (fun w => va_D A w) (wc_people _)) h2) h3)
theorem wc_river (v : Int32) : (wC ad cA σ).set 3 (ad 3, .inr (0, ([.ref (ad 4), .int (c_people σ), .int (c_river σ)] : List Value).set 2 (.int v))) = wC ad cA (sc_river σ v) := rfl
theorem gc_3_river (CF : CallFix p m c cc nL s args (wA y0 cc nL ret0) own) (hK : va_K D vwCl [(cA, .int)] s) (hP : va_P D vwCl (wC ad cA σ) H) (hl : Cond.fieldLink own idx "DugBySaid$Hill" "river" "I" ∈ wsA) (hdg : decode cc pc = .ok (.getfield idx, 3)) (kk : W p l e R s m args below meth c H locs cells slots Q (F0 m (pc + 3) ls (.int (c_river σ) :: rest))) : W p l e R s m args below meth c H locs cells slots Q (F0 m pc ls (.ref (ad 3) :: rest)) := va_get (D := D) (ci := 0) (C := RX0) (T := TX0) (N := 3) CF.1 CF.2.1 CF.2.2.2.2 (fun w h => List.mem_cons_of_mem _ (in_X0 w h)) CF.2.2.2.1 hK hP 3 rfl rfl 2 (by decide) (CF.2.2.2.2 _ (List.mem_cons_of_mem _ hl)) (fun _ h => h) rfl hdg kk
theorem pc_3_river (CF : CallFix p m c cc nL s args (wA y0 cc nL ret0) own) (hK : va_K D vwCl [(cA, .int)] s) (hP : va_P D vwCl (wC ad cA σ) H) (hD : va_D A (wC ad cA σ)) (hS : va_S A s.heap H locs) {x : Int32} (hl : Cond.fieldLink own idx "DugBySaid$Hill" "river" "I" ∈ wsA) (hdg : decode cc pc = .ok (.putfield idx, 3)) (kk : ∀ (H1 : Heap) (locs1 : List Loc), va_P D vwCl (wC ad cA (sc_river σ x)) H1 → va_D A (wC ad cA (sc_river σ x)) → va_S A s.heap H1 locs1 → W p l e R s m args below meth c H1 locs1 cells slots Q (F0 m (pc + 3) ls rest)) : W p l e R s m args below meth c H locs cells slots Q (F0 m pc ls (.int x :: .ref (ad 3) :: rest)) := va_put (ty := .int) (v := .int x) (D := D) (ci := 0) (C := RX0) (T := TX0) (N := 3) CF.1 CF.2.1 CF.2.2.2.2 (fun w h => List.mem_cons_of_mem _ (in_X0 w h)) tyX0 tyX0_ok nmX0 CF.2.2.2.1 hK hP hD hS 3 rfl rfl 2 (by decide) (CF.2.2.2.2 _ (List.mem_cons_of_mem _ hl)) (fun _ h => h) rfl (by decide +kernel) rfl rfl (Nat.le_of_ble_eq_true rfl) hdg (fun H1 locs1 h1 h2 h3 => kk H1 locs1 (Eq.mp (congrArg (fun w => va_P D vwCl w H1) (wc_river _)) h1) (Eq.mp (congrArg (fun w => va_D A w) (wc_river _)) h2) h3)
theorem gcN_3_river (CF : CallFix p m c cc nL s args (wA y0 cc nL ret0) own) (hK : va_K D vwCl [(cA, .int)] s) (hP : va_P D vwCl (wC ad cA σ) H) (hN : NW s) (hl : (own, idx, "DugBySaid$Hill", "river", "I", "DugBySaid") ∈ nwF) (hdg : decode cc pc = .ok (.getfield idx, 3)) (kk : W p l e R s m args below meth c H locs cells slots Q (F0 m (pc + 3) ls (.int (c_river σ) :: rest))) : W p l e R s m args below meth c H locs cells slots Q (F0 m pc ls (.ref (ad 3) :: rest)) := va_getN (D := D) (ci := 0) (C := RX0) (T := TX0) (N := 3) CF.1 CF.2.1 CF.2.2.2.2 (fun w h => List.mem_cons_of_mem _ (in_X0 w h)) CF.2.2.2.1 hK hP 3 rfl rfl 2 (by decide) (va_Nw.use rfl (hN.1 _ hl)) (fun _ h => h) rfl hdg kk
theorem pcN_3_river (CF : CallFix p m c cc nL s args (wA y0 cc nL ret0) own) (hK : va_K D vwCl [(cA, .int)] s) (hP : va_P D vwCl (wC ad cA σ) H) (hD : va_D A (wC ad cA σ)) (hS : va_S A s.heap H locs) {x : Int32} (hN : NW s) (hl : (own, idx, "DugBySaid$Hill", "river", "I", "DugBySaid") ∈ nwF) (hdg : decode cc pc = .ok (.putfield idx, 3)) (kk : ∀ (H1 : Heap) (locs1 : List Loc), va_P D vwCl (wC ad cA (sc_river σ x)) H1 → va_D A (wC ad cA (sc_river σ x)) → va_S A s.heap H1 locs1 → W p l e R s m args below meth c H1 locs1 cells slots Q (F0 m (pc + 3) ls rest)) : W p l e R s m args below meth c H locs cells slots Q (F0 m pc ls (.int x :: .ref (ad 3) :: rest)) := va_putN (ty := .int) (v := .int x) (D := D) (ci := 0) (C := RX0) (T := TX0) (N := 3) CF.1 CF.2.1 CF.2.2.2.2 (fun w h => List.mem_cons_of_mem _ (in_X0 w h)) tyX0 tyX0_ok nmX0 CF.2.2.2.1 hK hP hD hS 3 rfl rfl 2 (by decide) (va_Nw.use rfl (hN.1 _ hl)) (fun _ h => h) rfl (by decide +kernel) rfl rfl (Nat.le_of_ble_eq_true rfl) hdg (fun H1 locs1 h1 h2 h3 => kk H1 locs1 (Eq.mp (congrArg (fun w => va_P D vwCl w H1) (wc_river _)) h1) (Eq.mp (congrArg (fun w => va_D A w) (wc_river _)) h2) h3)
theorem lc_kinds (hx : p.tables.exec = Jvm.exec) (hb : c.code = cc) (hK : va_K D vwCl [(cA, .int)] s) (hP : va_P D vwCl (wC ad cA σ) H) {i : Int32} (hin : inB i 6) (hdg : decode cc pc = .ok (.iaload, 1)) (kk : W p l e R s m args below meth c H locs cells slots Q (F0 m (pc + 1) ls (.int (c_kinds σ i.toNatClampNeg) :: rest))) : W p l e R s m args below meth c H locs cells slots Q (F0 m pc ls (.int i :: .ref (ad 4) :: rest)) := va_iald hx hb hK hP 4 0 rfl rfl hin hdg kk
theorem wc_kinds (v : Nat → Int32) : (wC ad cA σ).set 4 (ad 4, .inl (cA, 6, .inl v)) = wC ad cA (sc_kinds σ v) := rfl
theorem ac_kinds (hx : p.tables.exec = Jvm.exec) (hb : c.code = cc) (hK : va_K D vwCl [(cA, .int)] s) (hP : va_P D vwCl (wC ad cA σ) H) (hD : va_D A (wC ad cA σ)) (hS : va_S A s.heap H locs) {i x : Int32} (hin : inB i 6) (hdg : decode cc pc = .ok (.iastore, 1)) (kk : ∀ (H1 : Heap) (locs1 : List Loc), va_P D vwCl (wC ad cA (sc_kinds σ (upd (c_kinds σ) i.toNatClampNeg x))) H1 → va_D A (wC ad cA (sc_kinds σ (upd (c_kinds σ) i.toNatClampNeg x))) → va_S A s.heap H1 locs1 → W p l e R s m args below meth c H1 locs1 cells slots Q (F0 m (pc + 1) ls rest)) : W p l e R s m args below meth c H locs cells slots Q (F0 m pc ls (.int x :: .int i :: .ref (ad 4) :: rest)) := va_iast hx hb hK hP hD hS 4 0 rfl rfl hin hdg (fun H1 locs1 h1 h2 h3 => kk H1 locs1 (Eq.mp (congrArg (fun w => va_P D vwCl w H1) (wc_kinds _)) h1) (Eq.mp (congrArg (fun w => va_D A w) (wc_kinds _)) h2) h3)
theorem nc_kinds (hx : p.tables.exec = Jvm.exec) (hb : c.code = cc) (hK : va_K D vwCl [(cA, .int)] s) (hP : va_P D vwCl (wC ad cA σ) H) (hdg : decode cc pc = .ok (.arraylength, 1)) (kk : W p l e R s m args below meth c H locs cells slots Q (F0 m (pc + 1) ls (.int 6 :: rest))) : W p l e R s m args below meth c H locs cells slots Q (F0 m pc ls (.ref (ad 4) :: rest)) := va_alen hx hb hK hP 4 0 rfl rfl (v := 6) rfl hdg kk
theorem gc_5_nexts (CF : CallFix p m c cc nL s args (wA y0 cc nL ret0) own) (hK : va_K D vwCl [(cA, .int)] s) (hP : va_P D vwCl (wC ad cA σ) H) (hl : Cond.fieldLink own idx "DugBySaid$Past" "nexts" "[I" ∈ wsA) (hdg : decode cc pc = .ok (.getfield idx, 3)) (kk : W p l e R s m args below meth c H locs cells slots Q (F0 m (pc + 3) ls (.ref (ad 6) :: rest))) : W p l e R s m args below meth c H locs cells slots Q (F0 m pc ls (.ref (ad 5) :: rest)) := va_get (D := D) (ci := 2) (C := RX2) (T := TX2) (N := 10) CF.1 CF.2.1 CF.2.2.2.2 (fun w h => List.mem_cons_of_mem _ (in_X2 w h)) CF.2.2.2.1 hK hP 5 rfl rfl 0 (by decide) (CF.2.2.2.2 _ (List.mem_cons_of_mem _ hl)) (fun _ h => h) rfl hdg kk
theorem gc_5_listeners (CF : CallFix p m c cc nL s args (wA y0 cc nL ret0) own) (hK : va_K D vwCl [(cA, .int)] s) (hP : va_P D vwCl (wC ad cA σ) H) (hl : Cond.fieldLink own idx "DugBySaid$Past" "listeners" "[I" ∈ wsA) (hdg : decode cc pc = .ok (.getfield idx, 3)) (kk : W p l e R s m args below meth c H locs cells slots Q (F0 m (pc + 3) ls (.ref (ad 7) :: rest))) : W p l e R s m args below meth c H locs cells slots Q (F0 m pc ls (.ref (ad 5) :: rest)) := va_get (D := D) (ci := 2) (C := RX2) (T := TX2) (N := 10) CF.1 CF.2.1 CF.2.2.2.2 (fun w h => List.mem_cons_of_mem _ (in_X2 w h)) CF.2.2.2.1 hK hP 5 rfl rfl 1 (by decide) (CF.2.2.2.2 _ (List.mem_cons_of_mem _ hl)) (fun _ h => h) rfl hdg kk
theorem gc_5_heard (CF : CallFix p m c cc nL s args (wA y0 cc nL ret0) own) (hK : va_K D vwCl [(cA, .int)] s) (hP : va_P D vwCl (wC ad cA σ) H) (hl : Cond.fieldLink own idx "DugBySaid$Past" "heard" "[I" ∈ wsA) (hdg : decode cc pc = .ok (.getfield idx, 3)) (kk : W p l e R s m args below meth c H locs cells slots Q (F0 m (pc + 3) ls (.ref (ad 8) :: rest))) : W p l e R s m args below meth c H locs cells slots Q (F0 m pc ls (.ref (ad 5) :: rest)) := va_get (D := D) (ci := 2) (C := RX2) (T := TX2) (N := 10) CF.1 CF.2.1 CF.2.2.2.2 (fun w h => List.mem_cons_of_mem _ (in_X2 w h)) CF.2.2.2.1 hK hP 5 rfl rfl 2 (by decide) (CF.2.2.2.2 _ (List.mem_cons_of_mem _ hl)) (fun _ h => h) rfl hdg kk
theorem gcN_5_heard (CF : CallFix p m c cc nL s args (wA y0 cc nL ret0) own) (hK : va_K D vwCl [(cA, .int)] s) (hP : va_P D vwCl (wC ad cA σ) H) (hN : NW s) (hl : (own, idx, "DugBySaid$Past", "heard", "[I", "DugBySaid") ∈ nwF) (hdg : decode cc pc = .ok (.getfield idx, 3)) (kk : W p l e R s m args below meth c H locs cells slots Q (F0 m (pc + 3) ls (.ref (ad 8) :: rest))) : W p l e R s m args below meth c H locs cells slots Q (F0 m pc ls (.ref (ad 5) :: rest)) := va_getN (D := D) (ci := 2) (C := RX2) (T := TX2) (N := 10) CF.1 CF.2.1 CF.2.2.2.2 (fun w h => List.mem_cons_of_mem _ (in_X2 w h)) CF.2.2.2.1 hK hP 5 rfl rfl 2 (by decide) (va_Nw.use rfl (hN.1 _ hl)) (fun _ h => h) rfl hdg kk
theorem gc_5_last (CF : CallFix p m c cc nL s args (wA y0 cc nL ret0) own) (hK : va_K D vwCl [(cA, .int)] s) (hP : va_P D vwCl (wC ad cA σ) H) (hl : Cond.fieldLink own idx "DugBySaid$Past" "last" "[I" ∈ wsA) (hdg : decode cc pc = .ok (.getfield idx, 3)) (kk : W p l e R s m args below meth c H locs cells slots Q (F0 m (pc + 3) ls (.ref (ad 9) :: rest))) : W p l e R s m args below meth c H locs cells slots Q (F0 m pc ls (.ref (ad 5) :: rest)) := va_get (D := D) (ci := 2) (C := RX2) (T := TX2) (N := 10) CF.1 CF.2.1 CF.2.2.2.2 (fun w h => List.mem_cons_of_mem _ (in_X2 w h)) CF.2.2.2.1 hK hP 5 rfl rfl 3 (by decide) (CF.2.2.2.2 _ (List.mem_cons_of_mem _ hl)) (fun _ h => h) rfl hdg kk
theorem gcN_5_last (CF : CallFix p m c cc nL s args (wA y0 cc nL ret0) own) (hK : va_K D vwCl [(cA, .int)] s) (hP : va_P D vwCl (wC ad cA σ) H) (hN : NW s) (hl : (own, idx, "DugBySaid$Past", "last", "[I", "DugBySaid") ∈ nwF) (hdg : decode cc pc = .ok (.getfield idx, 3)) (kk : W p l e R s m args below meth c H locs cells slots Q (F0 m (pc + 3) ls (.ref (ad 9) :: rest))) : W p l e R s m args below meth c H locs cells slots Q (F0 m pc ls (.ref (ad 5) :: rest)) := va_getN (D := D) (ci := 2) (C := RX2) (T := TX2) (N := 10) CF.1 CF.2.1 CF.2.2.2.2 (fun w h => List.mem_cons_of_mem _ (in_X2 w h)) CF.2.2.2.1 hK hP 5 rfl rfl 3 (by decide) (va_Nw.use rfl (hN.1 _ hl)) (fun _ h => h) rfl hdg kk
theorem gc_5_denied (CF : CallFix p m c cc nL s args (wA y0 cc nL ret0) own) (hK : va_K D vwCl [(cA, .int)] s) (hP : va_P D vwCl (wC ad cA σ) H) (hl : Cond.fieldLink own idx "DugBySaid$Past" "denied" "[I" ∈ wsA) (hdg : decode cc pc = .ok (.getfield idx, 3)) (kk : W p l e R s m args below meth c H locs cells slots Q (F0 m (pc + 3) ls (.ref (ad 10) :: rest))) : W p l e R s m args below meth c H locs cells slots Q (F0 m pc ls (.ref (ad 5) :: rest)) := va_get (D := D) (ci := 2) (C := RX2) (T := TX2) (N := 10) CF.1 CF.2.1 CF.2.2.2.2 (fun w h => List.mem_cons_of_mem _ (in_X2 w h)) CF.2.2.2.1 hK hP 5 rfl rfl 4 (by decide) (CF.2.2.2.2 _ (List.mem_cons_of_mem _ hl)) (fun _ h => h) rfl hdg kk
theorem gcN_5_denied (CF : CallFix p m c cc nL s args (wA y0 cc nL ret0) own) (hK : va_K D vwCl [(cA, .int)] s) (hP : va_P D vwCl (wC ad cA σ) H) (hN : NW s) (hl : (own, idx, "DugBySaid$Past", "denied", "[I", "DugBySaid") ∈ nwF) (hdg : decode cc pc = .ok (.getfield idx, 3)) (kk : W p l e R s m args below meth c H locs cells slots Q (F0 m (pc + 3) ls (.ref (ad 10) :: rest))) : W p l e R s m args below meth c H locs cells slots Q (F0 m pc ls (.ref (ad 5) :: rest)) := va_getN (D := D) (ci := 2) (C := RX2) (T := TX2) (N := 10) CF.1 CF.2.1 CF.2.2.2.2 (fun w h => List.mem_cons_of_mem _ (in_X2 w h)) CF.2.2.2.1 hK hP 5 rfl rfl 4 (by decide) (va_Nw.use rfl (hN.1 _ hl)) (fun _ h => h) rfl hdg kk
theorem gc_5_askedWhom (CF : CallFix p m c cc nL s args (wA y0 cc nL ret0) own) (hK : va_K D vwCl [(cA, .int)] s) (hP : va_P D vwCl (wC ad cA σ) H) (hl : Cond.fieldLink own idx "DugBySaid$Past" "askedWhom" "[I" ∈ wsA) (hdg : decode cc pc = .ok (.getfield idx, 3)) (kk : W p l e R s m args below meth c H locs cells slots Q (F0 m (pc + 3) ls (.ref (ad 11) :: rest))) : W p l e R s m args below meth c H locs cells slots Q (F0 m pc ls (.ref (ad 5) :: rest)) := va_get (D := D) (ci := 2) (C := RX2) (T := TX2) (N := 10) CF.1 CF.2.1 CF.2.2.2.2 (fun w h => List.mem_cons_of_mem _ (in_X2 w h)) CF.2.2.2.1 hK hP 5 rfl rfl 5 (by decide) (CF.2.2.2.2 _ (List.mem_cons_of_mem _ hl)) (fun _ h => h) rfl hdg kk
theorem gcN_5_askedWhom (CF : CallFix p m c cc nL s args (wA y0 cc nL ret0) own) (hK : va_K D vwCl [(cA, .int)] s) (hP : va_P D vwCl (wC ad cA σ) H) (hN : NW s) (hl : (own, idx, "DugBySaid$Past", "askedWhom", "[I", "DugBySaid") ∈ nwF) (hdg : decode cc pc = .ok (.getfield idx, 3)) (kk : W p l e R s m args below meth c H locs cells slots Q (F0 m (pc + 3) ls (.ref (ad 11) :: rest))) : W p l e R s m args below meth c H locs cells slots Q (F0 m pc ls (.ref (ad 5) :: rest)) := va_getN (D := D) (ci := 2) (C := RX2) (T := TX2) (N := 10) CF.1 CF.2.1 CF.2.2.2.2 (fun w h => List.mem_cons_of_mem _ (in_X2 w h)) CF.2.2.2.1 hK hP 5 rfl rfl 5 (by decide) (va_Nw.use rfl (hN.1 _ hl)) (fun _ h => h) rfl hdg kk
theorem gc_5_askedDay (CF : CallFix p m c cc nL s args (wA y0 cc nL ret0) own) (hK : va_K D vwCl [(cA, .int)] s) (hP : va_P D vwCl (wC ad cA σ) H) (hl : Cond.fieldLink own idx "DugBySaid$Past" "askedDay" "[I" ∈ wsA) (hdg : decode cc pc = .ok (.getfield idx, 3)) (kk : W p l e R s m args below meth c H locs cells slots Q (F0 m (pc + 3) ls (.ref (ad 12) :: rest))) : W p l e R s m args below meth c H locs cells slots Q (F0 m pc ls (.ref (ad 5) :: rest)) := va_get (D := D) (ci := 2) (C := RX2) (T := TX2) (N := 10) CF.1 CF.2.1 CF.2.2.2.2 (fun w h => List.mem_cons_of_mem _ (in_X2 w h)) CF.2.2.2.1 hK hP 5 rfl rfl 6 (by decide) (CF.2.2.2.2 _ (List.mem_cons_of_mem _ hl)) (fun _ h => h) rfl hdg kk
theorem gcN_5_askedDay (CF : CallFix p m c cc nL s args (wA y0 cc nL ret0) own) (hK : va_K D vwCl [(cA, .int)] s) (hP : va_P D vwCl (wC ad cA σ) H) (hN : NW s) (hl : (own, idx, "DugBySaid$Past", "askedDay", "[I", "DugBySaid") ∈ nwF) (hdg : decode cc pc = .ok (.getfield idx, 3)) (kk : W p l e R s m args below meth c H locs cells slots Q (F0 m (pc + 3) ls (.ref (ad 12) :: rest))) : W p l e R s m args below meth c H locs cells slots Q (F0 m pc ls (.ref (ad 5) :: rest)) := va_getN (D := D) (ci := 2) (C := RX2) (T := TX2) (N := 10) CF.1 CF.2.1 CF.2.2.2.2 (fun w h => List.mem_cons_of_mem _ (in_X2 w h)) CF.2.2.2.1 hK hP 5 rfl rfl 6 (by decide) (va_Nw.use rfl (hN.1 _ hl)) (fun _ h => h) rfl hdg kk
theorem wc_asked (v : Int32) : (wC ad cA σ).set 5 (ad 5, .inr (2, ([.ref (ad 6), .ref (ad 7), .ref (ad 8), .ref (ad 9), .ref (ad 10), .ref (ad 11), .ref (ad 12), .int (c_asked σ), .int (c_days σ), .int (c_changes σ)] : List Value).set 7 (.int v))) = wC ad cA (sc_asked σ v) := rfl
theorem gc_5_asked (CF : CallFix p m c cc nL s args (wA y0 cc nL ret0) own) (hK : va_K D vwCl [(cA, .int)] s) (hP : va_P D vwCl (wC ad cA σ) H) (hl : Cond.fieldLink own idx "DugBySaid$Past" "asked" "I" ∈ wsA) (hdg : decode cc pc = .ok (.getfield idx, 3)) (kk : W p l e R s m args below meth c H locs cells slots Q (F0 m (pc + 3) ls (.int (c_asked σ) :: rest))) : W p l e R s m args below meth c H locs cells slots Q (F0 m pc ls (.ref (ad 5) :: rest)) := va_get (D := D) (ci := 2) (C := RX2) (T := TX2) (N := 10) CF.1 CF.2.1 CF.2.2.2.2 (fun w h => List.mem_cons_of_mem _ (in_X2 w h)) CF.2.2.2.1 hK hP 5 rfl rfl 7 (by decide) (CF.2.2.2.2 _ (List.mem_cons_of_mem _ hl)) (fun _ h => h) rfl hdg kk
theorem pc_5_asked (CF : CallFix p m c cc nL s args (wA y0 cc nL ret0) own) (hK : va_K D vwCl [(cA, .int)] s) (hP : va_P D vwCl (wC ad cA σ) H) (hD : va_D A (wC ad cA σ)) (hS : va_S A s.heap H locs) {x : Int32} (hl : Cond.fieldLink own idx "DugBySaid$Past" "asked" "I" ∈ wsA) (hdg : decode cc pc = .ok (.putfield idx, 3)) (kk : ∀ (H1 : Heap) (locs1 : List Loc), va_P D vwCl (wC ad cA (sc_asked σ x)) H1 → va_D A (wC ad cA (sc_asked σ x)) → va_S A s.heap H1 locs1 → W p l e R s m args below meth c H1 locs1 cells slots Q (F0 m (pc + 3) ls rest)) : W p l e R s m args below meth c H locs cells slots Q (F0 m pc ls (.int x :: .ref (ad 5) :: rest)) := va_put (ty := .int) (v := .int x) (D := D) (ci := 2) (C := RX2) (T := TX2) (N := 10) CF.1 CF.2.1 CF.2.2.2.2 (fun w h => List.mem_cons_of_mem _ (in_X2 w h)) tyX2 tyX2_ok nmX2 CF.2.2.2.1 hK hP hD hS 5 rfl rfl 7 (by decide) (CF.2.2.2.2 _ (List.mem_cons_of_mem _ hl)) (fun _ h => h) rfl (by decide +kernel) rfl rfl (Nat.le_of_ble_eq_true rfl) hdg (fun H1 locs1 h1 h2 h3 => kk H1 locs1 (Eq.mp (congrArg (fun w => va_P D vwCl w H1) (wc_asked _)) h1) (Eq.mp (congrArg (fun w => va_D A w) (wc_asked _)) h2) h3)
theorem gcN_5_asked (CF : CallFix p m c cc nL s args (wA y0 cc nL ret0) own) (hK : va_K D vwCl [(cA, .int)] s) (hP : va_P D vwCl (wC ad cA σ) H) (hN : NW s) (hl : (own, idx, "DugBySaid$Past", "asked", "I", "DugBySaid") ∈ nwF) (hdg : decode cc pc = .ok (.getfield idx, 3)) (kk : W p l e R s m args below meth c H locs cells slots Q (F0 m (pc + 3) ls (.int (c_asked σ) :: rest))) : W p l e R s m args below meth c H locs cells slots Q (F0 m pc ls (.ref (ad 5) :: rest)) := va_getN (D := D) (ci := 2) (C := RX2) (T := TX2) (N := 10) CF.1 CF.2.1 CF.2.2.2.2 (fun w h => List.mem_cons_of_mem _ (in_X2 w h)) CF.2.2.2.1 hK hP 5 rfl rfl 7 (by decide) (va_Nw.use rfl (hN.1 _ hl)) (fun _ h => h) rfl hdg kk
theorem pcN_5_asked (CF : CallFix p m c cc nL s args (wA y0 cc nL ret0) own) (hK : va_K D vwCl [(cA, .int)] s) (hP : va_P D vwCl (wC ad cA σ) H) (hD : va_D A (wC ad cA σ)) (hS : va_S A s.heap H locs) {x : Int32} (hN : NW s) (hl : (own, idx, "DugBySaid$Past", "asked", "I", "DugBySaid") ∈ nwF) (hdg : decode cc pc = .ok (.putfield idx, 3)) (kk : ∀ (H1 : Heap) (locs1 : List Loc), va_P D vwCl (wC ad cA (sc_asked σ x)) H1 → va_D A (wC ad cA (sc_asked σ x)) → va_S A s.heap H1 locs1 → W p l e R s m args below meth c H1 locs1 cells slots Q (F0 m (pc + 3) ls rest)) : W p l e R s m args below meth c H locs cells slots Q (F0 m pc ls (.int x :: .ref (ad 5) :: rest)) := va_putN (ty := .int) (v := .int x) (D := D) (ci := 2) (C := RX2) (T := TX2) (N := 10) CF.1 CF.2.1 CF.2.2.2.2 (fun w h => List.mem_cons_of_mem _ (in_X2 w h)) tyX2 tyX2_ok nmX2 CF.2.2.2.1 hK hP hD hS 5 rfl rfl 7 (by decide) (va_Nw.use rfl (hN.1 _ hl)) (fun _ h => h) rfl (by decide +kernel) rfl rfl (Nat.le_of_ble_eq_true rfl) hdg (fun H1 locs1 h1 h2 h3 => kk H1 locs1 (Eq.mp (congrArg (fun w => va_P D vwCl w H1) (wc_asked _)) h1) (Eq.mp (congrArg (fun w => va_D A w) (wc_asked _)) h2) h3)
theorem wc_days (v : Int32) : (wC ad cA σ).set 5 (ad 5, .inr (2, ([.ref (ad 6), .ref (ad 7), .ref (ad 8), .ref (ad 9), .ref (ad 10), .ref (ad 11), .ref (ad 12), .int (c_asked σ), .int (c_days σ), .int (c_changes σ)] : List Value).set 8 (.int v))) = wC ad cA (sc_days σ v) := rfl
theorem gc_5_days (CF : CallFix p m c cc nL s args (wA y0 cc nL ret0) own) (hK : va_K D vwCl [(cA, .int)] s) (hP : va_P D vwCl (wC ad cA σ) H) (hl : Cond.fieldLink own idx "DugBySaid$Past" "days" "I" ∈ wsA) (hdg : decode cc pc = .ok (.getfield idx, 3)) (kk : W p l e R s m args below meth c H locs cells slots Q (F0 m (pc + 3) ls (.int (c_days σ) :: rest))) : W p l e R s m args below meth c H locs cells slots Q (F0 m pc ls (.ref (ad 5) :: rest)) := va_get (D := D) (ci := 2) (C := RX2) (T := TX2) (N := 10) CF.1 CF.2.1 CF.2.2.2.2 (fun w h => List.mem_cons_of_mem _ (in_X2 w h)) CF.2.2.2.1 hK hP 5 rfl rfl 8 (by decide) (CF.2.2.2.2 _ (List.mem_cons_of_mem _ hl)) (fun _ h => h) rfl hdg kk
theorem pc_5_days (CF : CallFix p m c cc nL s args (wA y0 cc nL ret0) own) (hK : va_K D vwCl [(cA, .int)] s) (hP : va_P D vwCl (wC ad cA σ) H) (hD : va_D A (wC ad cA σ)) (hS : va_S A s.heap H locs) {x : Int32} (hl : Cond.fieldLink own idx "DugBySaid$Past" "days" "I" ∈ wsA) (hdg : decode cc pc = .ok (.putfield idx, 3)) (kk : ∀ (H1 : Heap) (locs1 : List Loc), va_P D vwCl (wC ad cA (sc_days σ x)) H1 → va_D A (wC ad cA (sc_days σ x)) → va_S A s.heap H1 locs1 → W p l e R s m args below meth c H1 locs1 cells slots Q (F0 m (pc + 3) ls rest)) : W p l e R s m args below meth c H locs cells slots Q (F0 m pc ls (.int x :: .ref (ad 5) :: rest)) := va_put (ty := .int) (v := .int x) (D := D) (ci := 2) (C := RX2) (T := TX2) (N := 10) CF.1 CF.2.1 CF.2.2.2.2 (fun w h => List.mem_cons_of_mem _ (in_X2 w h)) tyX2 tyX2_ok nmX2 CF.2.2.2.1 hK hP hD hS 5 rfl rfl 8 (by decide) (CF.2.2.2.2 _ (List.mem_cons_of_mem _ hl)) (fun _ h => h) rfl (by decide +kernel) rfl rfl (Nat.le_of_ble_eq_true rfl) hdg (fun H1 locs1 h1 h2 h3 => kk H1 locs1 (Eq.mp (congrArg (fun w => va_P D vwCl w H1) (wc_days _)) h1) (Eq.mp (congrArg (fun w => va_D A w) (wc_days _)) h2) h3)
theorem gcN_5_days (CF : CallFix p m c cc nL s args (wA y0 cc nL ret0) own) (hK : va_K D vwCl [(cA, .int)] s) (hP : va_P D vwCl (wC ad cA σ) H) (hN : NW s) (hl : (own, idx, "DugBySaid$Past", "days", "I", "DugBySaid") ∈ nwF) (hdg : decode cc pc = .ok (.getfield idx, 3)) (kk : W p l e R s m args below meth c H locs cells slots Q (F0 m (pc + 3) ls (.int (c_days σ) :: rest))) : W p l e R s m args below meth c H locs cells slots Q (F0 m pc ls (.ref (ad 5) :: rest)) := va_getN (D := D) (ci := 2) (C := RX2) (T := TX2) (N := 10) CF.1 CF.2.1 CF.2.2.2.2 (fun w h => List.mem_cons_of_mem _ (in_X2 w h)) CF.2.2.2.1 hK hP 5 rfl rfl 8 (by decide) (va_Nw.use rfl (hN.1 _ hl)) (fun _ h => h) rfl hdg kk
theorem pcN_5_days (CF : CallFix p m c cc nL s args (wA y0 cc nL ret0) own) (hK : va_K D vwCl [(cA, .int)] s) (hP : va_P D vwCl (wC ad cA σ) H) (hD : va_D A (wC ad cA σ)) (hS : va_S A s.heap H locs) {x : Int32} (hN : NW s) (hl : (own, idx, "DugBySaid$Past", "days", "I", "DugBySaid") ∈ nwF) (hdg : decode cc pc = .ok (.putfield idx, 3)) (kk : ∀ (H1 : Heap) (locs1 : List Loc), va_P D vwCl (wC ad cA (sc_days σ x)) H1 → va_D A (wC ad cA (sc_days σ x)) → va_S A s.heap H1 locs1 → W p l e R s m args below meth c H1 locs1 cells slots Q (F0 m (pc + 3) ls rest)) : W p l e R s m args below meth c H locs cells slots Q (F0 m pc ls (.int x :: .ref (ad 5) :: rest)) := va_putN (ty := .int) (v := .int x) (D := D) (ci := 2) (C := RX2) (T := TX2) (N := 10) CF.1 CF.2.1 CF.2.2.2.2 (fun w h => List.mem_cons_of_mem _ (in_X2 w h)) tyX2 tyX2_ok nmX2 CF.2.2.2.1 hK hP hD hS 5 rfl rfl 8 (by decide) (va_Nw.use rfl (hN.1 _ hl)) (fun _ h => h) rfl (by decide +kernel) rfl rfl (Nat.le_of_ble_eq_true rfl) hdg (fun H1 locs1 h1 h2 h3 => kk H1 locs1 (Eq.mp (congrArg (fun w => va_P D vwCl w H1) (wc_days _)) h1) (Eq.mp (congrArg (fun w => va_D A w) (wc_days _)) h2) h3)
theorem wc_changes (v : Int32) : (wC ad cA σ).set 5 (ad 5, .inr (2, ([.ref (ad 6), .ref (ad 7), .ref (ad 8), .ref (ad 9), .ref (ad 10), .ref (ad 11), .ref (ad 12), .int (c_asked σ), .int (c_days σ), .int (c_changes σ)] : List Value).set 9 (.int v))) = wC ad cA (sc_changes σ v) := rfl
theorem gc_5_changes (CF : CallFix p m c cc nL s args (wA y0 cc nL ret0) own) (hK : va_K D vwCl [(cA, .int)] s) (hP : va_P D vwCl (wC ad cA σ) H) (hl : Cond.fieldLink own idx "DugBySaid$Past" "changes" "I" ∈ wsA) (hdg : decode cc pc = .ok (.getfield idx, 3)) (kk : W p l e R s m args below meth c H locs cells slots Q (F0 m (pc + 3) ls (.int (c_changes σ) :: rest))) : W p l e R s m args below meth c H locs cells slots Q (F0 m pc ls (.ref (ad 5) :: rest)) := va_get (D := D) (ci := 2) (C := RX2) (T := TX2) (N := 10) CF.1 CF.2.1 CF.2.2.2.2 (fun w h => List.mem_cons_of_mem _ (in_X2 w h)) CF.2.2.2.1 hK hP 5 rfl rfl 9 (by decide) (CF.2.2.2.2 _ (List.mem_cons_of_mem _ hl)) (fun _ h => h) rfl hdg kk
theorem pc_5_changes (CF : CallFix p m c cc nL s args (wA y0 cc nL ret0) own) (hK : va_K D vwCl [(cA, .int)] s) (hP : va_P D vwCl (wC ad cA σ) H) (hD : va_D A (wC ad cA σ)) (hS : va_S A s.heap H locs) {x : Int32} (hl : Cond.fieldLink own idx "DugBySaid$Past" "changes" "I" ∈ wsA) (hdg : decode cc pc = .ok (.putfield idx, 3)) (kk : ∀ (H1 : Heap) (locs1 : List Loc), va_P D vwCl (wC ad cA (sc_changes σ x)) H1 → va_D A (wC ad cA (sc_changes σ x)) → va_S A s.heap H1 locs1 → W p l e R s m args below meth c H1 locs1 cells slots Q (F0 m (pc + 3) ls rest)) : W p l e R s m args below meth c H locs cells slots Q (F0 m pc ls (.int x :: .ref (ad 5) :: rest)) := va_put (ty := .int) (v := .int x) (D := D) (ci := 2) (C := RX2) (T := TX2) (N := 10) CF.1 CF.2.1 CF.2.2.2.2 (fun w h => List.mem_cons_of_mem _ (in_X2 w h)) tyX2 tyX2_ok nmX2 CF.2.2.2.1 hK hP hD hS 5 rfl rfl 9 (by decide) (CF.2.2.2.2 _ (List.mem_cons_of_mem _ hl)) (fun _ h => h) rfl (by decide +kernel) rfl rfl (Nat.le_of_ble_eq_true rfl) hdg (fun H1 locs1 h1 h2 h3 => kk H1 locs1 (Eq.mp (congrArg (fun w => va_P D vwCl w H1) (wc_changes _)) h1) (Eq.mp (congrArg (fun w => va_D A w) (wc_changes _)) h2) h3)
theorem gcN_5_changes (CF : CallFix p m c cc nL s args (wA y0 cc nL ret0) own) (hK : va_K D vwCl [(cA, .int)] s) (hP : va_P D vwCl (wC ad cA σ) H) (hN : NW s) (hl : (own, idx, "DugBySaid$Past", "changes", "I", "DugBySaid") ∈ nwF) (hdg : decode cc pc = .ok (.getfield idx, 3)) (kk : W p l e R s m args below meth c H locs cells slots Q (F0 m (pc + 3) ls (.int (c_changes σ) :: rest))) : W p l e R s m args below meth c H locs cells slots Q (F0 m pc ls (.ref (ad 5) :: rest)) := va_getN (D := D) (ci := 2) (C := RX2) (T := TX2) (N := 10) CF.1 CF.2.1 CF.2.2.2.2 (fun w h => List.mem_cons_of_mem _ (in_X2 w h)) CF.2.2.2.1 hK hP 5 rfl rfl 9 (by decide) (va_Nw.use rfl (hN.1 _ hl)) (fun _ h => h) rfl hdg kk
theorem pcN_5_changes (CF : CallFix p m c cc nL s args (wA y0 cc nL ret0) own) (hK : va_K D vwCl [(cA, .int)] s) (hP : va_P D vwCl (wC ad cA σ) H) (hD : va_D A (wC ad cA σ)) (hS : va_S A s.heap H locs) {x : Int32} (hN : NW s) (hl : (own, idx, "DugBySaid$Past", "changes", "I", "DugBySaid") ∈ nwF) (hdg : decode cc pc = .ok (.putfield idx, 3)) (kk : ∀ (H1 : Heap) (locs1 : List Loc), va_P D vwCl (wC ad cA (sc_changes σ x)) H1 → va_D A (wC ad cA (sc_changes σ x)) → va_S A s.heap H1 locs1 → W p l e R s m args below meth c H1 locs1 cells slots Q (F0 m (pc + 3) ls rest)) : W p l e R s m args below meth c H locs cells slots Q (F0 m pc ls (.int x :: .ref (ad 5) :: rest)) := va_putN (ty := .int) (v := .int x) (D := D) (ci := 2) (C := RX2) (T := TX2) (N := 10) CF.1 CF.2.1 CF.2.2.2.2 (fun w h => List.mem_cons_of_mem _ (in_X2 w h)) tyX2 tyX2_ok nmX2 CF.2.2.2.1 hK hP hD hS 5 rfl rfl 9 (by decide) (va_Nw.use rfl (hN.1 _ hl)) (fun _ h => h) rfl (by decide +kernel) rfl rfl (Nat.le_of_ble_eq_true rfl) hdg (fun H1 locs1 h1 h2 h3 => kk H1 locs1 (Eq.mp (congrArg (fun w => va_P D vwCl w H1) (wc_changes _)) h1) (Eq.mp (congrArg (fun w => va_D A w) (wc_changes _)) h2) h3)
theorem lc_nexts (hx : p.tables.exec = Jvm.exec) (hb : c.code = cc) (hK : va_K D vwCl [(cA, .int)] s) (hP : va_P D vwCl (wC ad cA σ) H) {i : Int32} (hin : inB i 6) (hdg : decode cc pc = .ok (.iaload, 1)) (kk : W p l e R s m args below meth c H locs cells slots Q (F0 m (pc + 1) ls (.int (c_nexts σ i.toNatClampNeg) :: rest))) : W p l e R s m args below meth c H locs cells slots Q (F0 m pc ls (.int i :: .ref (ad 6) :: rest)) := va_iald hx hb hK hP 6 0 rfl rfl hin hdg kk
theorem wc_nexts (v : Nat → Int32) : (wC ad cA σ).set 6 (ad 6, .inl (cA, 6, .inl v)) = wC ad cA (sc_nexts σ v) := rfl
theorem ac_nexts (hx : p.tables.exec = Jvm.exec) (hb : c.code = cc) (hK : va_K D vwCl [(cA, .int)] s) (hP : va_P D vwCl (wC ad cA σ) H) (hD : va_D A (wC ad cA σ)) (hS : va_S A s.heap H locs) {i x : Int32} (hin : inB i 6) (hdg : decode cc pc = .ok (.iastore, 1)) (kk : ∀ (H1 : Heap) (locs1 : List Loc), va_P D vwCl (wC ad cA (sc_nexts σ (upd (c_nexts σ) i.toNatClampNeg x))) H1 → va_D A (wC ad cA (sc_nexts σ (upd (c_nexts σ) i.toNatClampNeg x))) → va_S A s.heap H1 locs1 → W p l e R s m args below meth c H1 locs1 cells slots Q (F0 m (pc + 1) ls rest)) : W p l e R s m args below meth c H locs cells slots Q (F0 m pc ls (.int x :: .int i :: .ref (ad 6) :: rest)) := va_iast hx hb hK hP hD hS 6 0 rfl rfl hin hdg (fun H1 locs1 h1 h2 h3 => kk H1 locs1 (Eq.mp (congrArg (fun w => va_P D vwCl w H1) (wc_nexts _)) h1) (Eq.mp (congrArg (fun w => va_D A w) (wc_nexts _)) h2) h3)
theorem nc_nexts (hx : p.tables.exec = Jvm.exec) (hb : c.code = cc) (hK : va_K D vwCl [(cA, .int)] s) (hP : va_P D vwCl (wC ad cA σ) H) (hdg : decode cc pc = .ok (.arraylength, 1)) (kk : W p l e R s m args below meth c H locs cells slots Q (F0 m (pc + 1) ls (.int 6 :: rest))) : W p l e R s m args below meth c H locs cells slots Q (F0 m pc ls (.ref (ad 6) :: rest)) := va_alen hx hb hK hP 6 0 rfl rfl (v := 6) rfl hdg kk
theorem lc_lsts (hx : p.tables.exec = Jvm.exec) (hb : c.code = cc) (hK : va_K D vwCl [(cA, .int)] s) (hP : va_P D vwCl (wC ad cA σ) H) {i : Int32} (hin : inB i 6) (hdg : decode cc pc = .ok (.iaload, 1)) (kk : W p l e R s m args below meth c H locs cells slots Q (F0 m (pc + 1) ls (.int (c_lsts σ i.toNatClampNeg) :: rest))) : W p l e R s m args below meth c H locs cells slots Q (F0 m pc ls (.int i :: .ref (ad 7) :: rest)) := va_iald hx hb hK hP 7 0 rfl rfl hin hdg kk
theorem wc_lsts (v : Nat → Int32) : (wC ad cA σ).set 7 (ad 7, .inl (cA, 6, .inl v)) = wC ad cA (sc_lsts σ v) := rfl
theorem ac_lsts (hx : p.tables.exec = Jvm.exec) (hb : c.code = cc) (hK : va_K D vwCl [(cA, .int)] s) (hP : va_P D vwCl (wC ad cA σ) H) (hD : va_D A (wC ad cA σ)) (hS : va_S A s.heap H locs) {i x : Int32} (hin : inB i 6) (hdg : decode cc pc = .ok (.iastore, 1)) (kk : ∀ (H1 : Heap) (locs1 : List Loc), va_P D vwCl (wC ad cA (sc_lsts σ (upd (c_lsts σ) i.toNatClampNeg x))) H1 → va_D A (wC ad cA (sc_lsts σ (upd (c_lsts σ) i.toNatClampNeg x))) → va_S A s.heap H1 locs1 → W p l e R s m args below meth c H1 locs1 cells slots Q (F0 m (pc + 1) ls rest)) : W p l e R s m args below meth c H locs cells slots Q (F0 m pc ls (.int x :: .int i :: .ref (ad 7) :: rest)) := va_iast hx hb hK hP hD hS 7 0 rfl rfl hin hdg (fun H1 locs1 h1 h2 h3 => kk H1 locs1 (Eq.mp (congrArg (fun w => va_P D vwCl w H1) (wc_lsts _)) h1) (Eq.mp (congrArg (fun w => va_D A w) (wc_lsts _)) h2) h3)
theorem nc_lsts (hx : p.tables.exec = Jvm.exec) (hb : c.code = cc) (hK : va_K D vwCl [(cA, .int)] s) (hP : va_P D vwCl (wC ad cA σ) H) (hdg : decode cc pc = .ok (.arraylength, 1)) (kk : W p l e R s m args below meth c H locs cells slots Q (F0 m (pc + 1) ls (.int 6 :: rest))) : W p l e R s m args below meth c H locs cells slots Q (F0 m pc ls (.ref (ad 7) :: rest)) := va_alen hx hb hK hP 7 0 rfl rfl (v := 6) rfl hdg kk
theorem lc_heard (hx : p.tables.exec = Jvm.exec) (hb : c.code = cc) (hK : va_K D vwCl [(cA, .int)] s) (hP : va_P D vwCl (wC ad cA σ) H) {i : Int32} (hin : inB i 3) (hdg : decode cc pc = .ok (.iaload, 1)) (kk : W p l e R s m args below meth c H locs cells slots Q (F0 m (pc + 1) ls (.int (c_heard σ i.toNatClampNeg) :: rest))) : W p l e R s m args below meth c H locs cells slots Q (F0 m pc ls (.int i :: .ref (ad 8) :: rest)) := va_iald hx hb hK hP 8 0 rfl rfl hin hdg kk
theorem wc_heard (v : Nat → Int32) : (wC ad cA σ).set 8 (ad 8, .inl (cA, 3, .inl v)) = wC ad cA (sc_heard σ v) := rfl
theorem ac_heard (hx : p.tables.exec = Jvm.exec) (hb : c.code = cc) (hK : va_K D vwCl [(cA, .int)] s) (hP : va_P D vwCl (wC ad cA σ) H) (hD : va_D A (wC ad cA σ)) (hS : va_S A s.heap H locs) {i x : Int32} (hin : inB i 3) (hdg : decode cc pc = .ok (.iastore, 1)) (kk : ∀ (H1 : Heap) (locs1 : List Loc), va_P D vwCl (wC ad cA (sc_heard σ (upd (c_heard σ) i.toNatClampNeg x))) H1 → va_D A (wC ad cA (sc_heard σ (upd (c_heard σ) i.toNatClampNeg x))) → va_S A s.heap H1 locs1 → W p l e R s m args below meth c H1 locs1 cells slots Q (F0 m (pc + 1) ls rest)) : W p l e R s m args below meth c H locs cells slots Q (F0 m pc ls (.int x :: .int i :: .ref (ad 8) :: rest)) := va_iast hx hb hK hP hD hS 8 0 rfl rfl hin hdg (fun H1 locs1 h1 h2 h3 => kk H1 locs1 (Eq.mp (congrArg (fun w => va_P D vwCl w H1) (wc_heard _)) h1) (Eq.mp (congrArg (fun w => va_D A w) (wc_heard _)) h2) h3)
theorem nc_heard (hx : p.tables.exec = Jvm.exec) (hb : c.code = cc) (hK : va_K D vwCl [(cA, .int)] s) (hP : va_P D vwCl (wC ad cA σ) H) (hdg : decode cc pc = .ok (.arraylength, 1)) (kk : W p l e R s m args below meth c H locs cells slots Q (F0 m (pc + 1) ls (.int 3 :: rest))) : W p l e R s m args below meth c H locs cells slots Q (F0 m pc ls (.ref (ad 8) :: rest)) := va_alen hx hb hK hP 8 0 rfl rfl (v := 3) rfl hdg kk
theorem lc_last (hx : p.tables.exec = Jvm.exec) (hb : c.code = cc) (hK : va_K D vwCl [(cA, .int)] s) (hP : va_P D vwCl (wC ad cA σ) H) {i : Int32} (hin : inB i 3) (hdg : decode cc pc = .ok (.iaload, 1)) (kk : W p l e R s m args below meth c H locs cells slots Q (F0 m (pc + 1) ls (.int (c_last σ i.toNatClampNeg) :: rest))) : W p l e R s m args below meth c H locs cells slots Q (F0 m pc ls (.int i :: .ref (ad 9) :: rest)) := va_iald hx hb hK hP 9 0 rfl rfl hin hdg kk
theorem wc_last (v : Nat → Int32) : (wC ad cA σ).set 9 (ad 9, .inl (cA, 3, .inl v)) = wC ad cA (sc_last σ v) := rfl
theorem ac_last (hx : p.tables.exec = Jvm.exec) (hb : c.code = cc) (hK : va_K D vwCl [(cA, .int)] s) (hP : va_P D vwCl (wC ad cA σ) H) (hD : va_D A (wC ad cA σ)) (hS : va_S A s.heap H locs) {i x : Int32} (hin : inB i 3) (hdg : decode cc pc = .ok (.iastore, 1)) (kk : ∀ (H1 : Heap) (locs1 : List Loc), va_P D vwCl (wC ad cA (sc_last σ (upd (c_last σ) i.toNatClampNeg x))) H1 → va_D A (wC ad cA (sc_last σ (upd (c_last σ) i.toNatClampNeg x))) → va_S A s.heap H1 locs1 → W p l e R s m args below meth c H1 locs1 cells slots Q (F0 m (pc + 1) ls rest)) : W p l e R s m args below meth c H locs cells slots Q (F0 m pc ls (.int x :: .int i :: .ref (ad 9) :: rest)) := va_iast hx hb hK hP hD hS 9 0 rfl rfl hin hdg (fun H1 locs1 h1 h2 h3 => kk H1 locs1 (Eq.mp (congrArg (fun w => va_P D vwCl w H1) (wc_last _)) h1) (Eq.mp (congrArg (fun w => va_D A w) (wc_last _)) h2) h3)
theorem nc_last (hx : p.tables.exec = Jvm.exec) (hb : c.code = cc) (hK : va_K D vwCl [(cA, .int)] s) (hP : va_P D vwCl (wC ad cA σ) H) (hdg : decode cc pc = .ok (.arraylength, 1)) (kk : W p l e R s m args below meth c H locs cells slots Q (F0 m (pc + 1) ls (.int 3 :: rest))) : W p l e R s m args below meth c H locs cells slots Q (F0 m pc ls (.ref (ad 9) :: rest)) := va_alen hx hb hK hP 9 0 rfl rfl (v := 3) rfl hdg kk
theorem lc_denied (hx : p.tables.exec = Jvm.exec) (hb : c.code = cc) (hK : va_K D vwCl [(cA, .int)] s) (hP : va_P D vwCl (wC ad cA σ) H) {i : Int32} (hin : inB i 3) (hdg : decode cc pc = .ok (.iaload, 1)) (kk : W p l e R s m args below meth c H locs cells slots Q (F0 m (pc + 1) ls (.int (c_denied σ i.toNatClampNeg) :: rest))) : W p l e R s m args below meth c H locs cells slots Q (F0 m pc ls (.int i :: .ref (ad 10) :: rest)) := va_iald hx hb hK hP 10 0 rfl rfl hin hdg kk
theorem wc_denied (v : Nat → Int32) : (wC ad cA σ).set 10 (ad 10, .inl (cA, 3, .inl v)) = wC ad cA (sc_denied σ v) := rfl
theorem ac_denied (hx : p.tables.exec = Jvm.exec) (hb : c.code = cc) (hK : va_K D vwCl [(cA, .int)] s) (hP : va_P D vwCl (wC ad cA σ) H) (hD : va_D A (wC ad cA σ)) (hS : va_S A s.heap H locs) {i x : Int32} (hin : inB i 3) (hdg : decode cc pc = .ok (.iastore, 1)) (kk : ∀ (H1 : Heap) (locs1 : List Loc), va_P D vwCl (wC ad cA (sc_denied σ (upd (c_denied σ) i.toNatClampNeg x))) H1 → va_D A (wC ad cA (sc_denied σ (upd (c_denied σ) i.toNatClampNeg x))) → va_S A s.heap H1 locs1 → W p l e R s m args below meth c H1 locs1 cells slots Q (F0 m (pc + 1) ls rest)) : W p l e R s m args below meth c H locs cells slots Q (F0 m pc ls (.int x :: .int i :: .ref (ad 10) :: rest)) := va_iast hx hb hK hP hD hS 10 0 rfl rfl hin hdg (fun H1 locs1 h1 h2 h3 => kk H1 locs1 (Eq.mp (congrArg (fun w => va_P D vwCl w H1) (wc_denied _)) h1) (Eq.mp (congrArg (fun w => va_D A w) (wc_denied _)) h2) h3)
theorem nc_denied (hx : p.tables.exec = Jvm.exec) (hb : c.code = cc) (hK : va_K D vwCl [(cA, .int)] s) (hP : va_P D vwCl (wC ad cA σ) H) (hdg : decode cc pc = .ok (.arraylength, 1)) (kk : W p l e R s m args below meth c H locs cells slots Q (F0 m (pc + 1) ls (.int 3 :: rest))) : W p l e R s m args below meth c H locs cells slots Q (F0 m pc ls (.ref (ad 10) :: rest)) := va_alen hx hb hK hP 10 0 rfl rfl (v := 3) rfl hdg kk
theorem lc_whom (hx : p.tables.exec = Jvm.exec) (hb : c.code = cc) (hK : va_K D vwCl [(cA, .int)] s) (hP : va_P D vwCl (wC ad cA σ) H) {i : Int32} (hin : inB i 8) (hdg : decode cc pc = .ok (.iaload, 1)) (kk : W p l e R s m args below meth c H locs cells slots Q (F0 m (pc + 1) ls (.int (c_whom σ i.toNatClampNeg) :: rest))) : W p l e R s m args below meth c H locs cells slots Q (F0 m pc ls (.int i :: .ref (ad 11) :: rest)) := va_iald hx hb hK hP 11 0 rfl rfl hin hdg kk
theorem wc_whom (v : Nat → Int32) : (wC ad cA σ).set 11 (ad 11, .inl (cA, 8, .inl v)) = wC ad cA (sc_whom σ v) := rfl
theorem ac_whom (hx : p.tables.exec = Jvm.exec) (hb : c.code = cc) (hK : va_K D vwCl [(cA, .int)] s) (hP : va_P D vwCl (wC ad cA σ) H) (hD : va_D A (wC ad cA σ)) (hS : va_S A s.heap H locs) {i x : Int32} (hin : inB i 8) (hdg : decode cc pc = .ok (.iastore, 1)) (kk : ∀ (H1 : Heap) (locs1 : List Loc), va_P D vwCl (wC ad cA (sc_whom σ (upd (c_whom σ) i.toNatClampNeg x))) H1 → va_D A (wC ad cA (sc_whom σ (upd (c_whom σ) i.toNatClampNeg x))) → va_S A s.heap H1 locs1 → W p l e R s m args below meth c H1 locs1 cells slots Q (F0 m (pc + 1) ls rest)) : W p l e R s m args below meth c H locs cells slots Q (F0 m pc ls (.int x :: .int i :: .ref (ad 11) :: rest)) := va_iast hx hb hK hP hD hS 11 0 rfl rfl hin hdg (fun H1 locs1 h1 h2 h3 => kk H1 locs1 (Eq.mp (congrArg (fun w => va_P D vwCl w H1) (wc_whom _)) h1) (Eq.mp (congrArg (fun w => va_D A w) (wc_whom _)) h2) h3)
theorem nc_whom (hx : p.tables.exec = Jvm.exec) (hb : c.code = cc) (hK : va_K D vwCl [(cA, .int)] s) (hP : va_P D vwCl (wC ad cA σ) H) (hdg : decode cc pc = .ok (.arraylength, 1)) (kk : W p l e R s m args below meth c H locs cells slots Q (F0 m (pc + 1) ls (.int 8 :: rest))) : W p l e R s m args below meth c H locs cells slots Q (F0 m pc ls (.ref (ad 11) :: rest)) := va_alen hx hb hK hP 11 0 rfl rfl (v := 8) rfl hdg kk
theorem lc_wday (hx : p.tables.exec = Jvm.exec) (hb : c.code = cc) (hK : va_K D vwCl [(cA, .int)] s) (hP : va_P D vwCl (wC ad cA σ) H) {i : Int32} (hin : inB i 8) (hdg : decode cc pc = .ok (.iaload, 1)) (kk : W p l e R s m args below meth c H locs cells slots Q (F0 m (pc + 1) ls (.int (c_wday σ i.toNatClampNeg) :: rest))) : W p l e R s m args below meth c H locs cells slots Q (F0 m pc ls (.int i :: .ref (ad 12) :: rest)) := va_iald hx hb hK hP 12 0 rfl rfl hin hdg kk
theorem wc_wday (v : Nat → Int32) : (wC ad cA σ).set 12 (ad 12, .inl (cA, 8, .inl v)) = wC ad cA (sc_wday σ v) := rfl
theorem ac_wday (hx : p.tables.exec = Jvm.exec) (hb : c.code = cc) (hK : va_K D vwCl [(cA, .int)] s) (hP : va_P D vwCl (wC ad cA σ) H) (hD : va_D A (wC ad cA σ)) (hS : va_S A s.heap H locs) {i x : Int32} (hin : inB i 8) (hdg : decode cc pc = .ok (.iastore, 1)) (kk : ∀ (H1 : Heap) (locs1 : List Loc), va_P D vwCl (wC ad cA (sc_wday σ (upd (c_wday σ) i.toNatClampNeg x))) H1 → va_D A (wC ad cA (sc_wday σ (upd (c_wday σ) i.toNatClampNeg x))) → va_S A s.heap H1 locs1 → W p l e R s m args below meth c H1 locs1 cells slots Q (F0 m (pc + 1) ls rest)) : W p l e R s m args below meth c H locs cells slots Q (F0 m pc ls (.int x :: .int i :: .ref (ad 12) :: rest)) := va_iast hx hb hK hP hD hS 12 0 rfl rfl hin hdg (fun H1 locs1 h1 h2 h3 => kk H1 locs1 (Eq.mp (congrArg (fun w => va_P D vwCl w H1) (wc_wday _)) h1) (Eq.mp (congrArg (fun w => va_D A w) (wc_wday _)) h2) h3)
theorem nc_wday (hx : p.tables.exec = Jvm.exec) (hb : c.code = cc) (hK : va_K D vwCl [(cA, .int)] s) (hP : va_P D vwCl (wC ad cA σ) H) (hdg : decode cc pc = .ok (.arraylength, 1)) (kk : W p l e R s m args below meth c H locs cells slots Q (F0 m (pc + 1) ls (.int 8 :: rest))) : W p l e R s m args below meth c H locs cells slots Q (F0 m pc ls (.ref (ad 12) :: rest)) := va_alen hx hb hK hP 12 0 rfl rfl (v := 8) rfl hdg kk
theorem gc_13_nexts (CF : CallFix p m c cc nL s args (wA y0 cc nL ret0) own) (hK : va_K D vwCl [(cA, .int)] s) (hP : va_P D vwCl (wC ad cA σ) H) (hl : Cond.fieldLink own idx "DugBySaid$Past" "nexts" "[I" ∈ wsA) (hdg : decode cc pc = .ok (.getfield idx, 3)) (kk : W p l e R s m args below meth c H locs cells slots Q (F0 m (pc + 3) ls (.ref (ad 14) :: rest))) : W p l e R s m args below meth c H locs cells slots Q (F0 m pc ls (.ref (ad 13) :: rest)) := va_get (D := D) (ci := 2) (C := RX2) (T := TX2) (N := 10) CF.1 CF.2.1 CF.2.2.2.2 (fun w h => List.mem_cons_of_mem _ (in_X2 w h)) CF.2.2.2.1 hK hP 13 rfl rfl 0 (by decide) (CF.2.2.2.2 _ (List.mem_cons_of_mem _ hl)) (fun _ h => h) rfl hdg kk
theorem gc_13_listeners (CF : CallFix p m c cc nL s args (wA y0 cc nL ret0) own) (hK : va_K D vwCl [(cA, .int)] s) (hP : va_P D vwCl (wC ad cA σ) H) (hl : Cond.fieldLink own idx "DugBySaid$Past" "listeners" "[I" ∈ wsA) (hdg : decode cc pc = .ok (.getfield idx, 3)) (kk : W p l e R s m args below meth c H locs cells slots Q (F0 m (pc + 3) ls (.ref (ad 15) :: rest))) : W p l e R s m args below meth c H locs cells slots Q (F0 m pc ls (.ref (ad 13) :: rest)) := va_get (D := D) (ci := 2) (C := RX2) (T := TX2) (N := 10) CF.1 CF.2.1 CF.2.2.2.2 (fun w h => List.mem_cons_of_mem _ (in_X2 w h)) CF.2.2.2.1 hK hP 13 rfl rfl 1 (by decide) (CF.2.2.2.2 _ (List.mem_cons_of_mem _ hl)) (fun _ h => h) rfl hdg kk
theorem gc_13_heard (CF : CallFix p m c cc nL s args (wA y0 cc nL ret0) own) (hK : va_K D vwCl [(cA, .int)] s) (hP : va_P D vwCl (wC ad cA σ) H) (hl : Cond.fieldLink own idx "DugBySaid$Past" "heard" "[I" ∈ wsA) (hdg : decode cc pc = .ok (.getfield idx, 3)) (kk : W p l e R s m args below meth c H locs cells slots Q (F0 m (pc + 3) ls (.ref (ad 16) :: rest))) : W p l e R s m args below meth c H locs cells slots Q (F0 m pc ls (.ref (ad 13) :: rest)) := va_get (D := D) (ci := 2) (C := RX2) (T := TX2) (N := 10) CF.1 CF.2.1 CF.2.2.2.2 (fun w h => List.mem_cons_of_mem _ (in_X2 w h)) CF.2.2.2.1 hK hP 13 rfl rfl 2 (by decide) (CF.2.2.2.2 _ (List.mem_cons_of_mem _ hl)) (fun _ h => h) rfl hdg kk
theorem gcN_13_heard (CF : CallFix p m c cc nL s args (wA y0 cc nL ret0) own) (hK : va_K D vwCl [(cA, .int)] s) (hP : va_P D vwCl (wC ad cA σ) H) (hN : NW s) (hl : (own, idx, "DugBySaid$Past", "heard", "[I", "DugBySaid") ∈ nwF) (hdg : decode cc pc = .ok (.getfield idx, 3)) (kk : W p l e R s m args below meth c H locs cells slots Q (F0 m (pc + 3) ls (.ref (ad 16) :: rest))) : W p l e R s m args below meth c H locs cells slots Q (F0 m pc ls (.ref (ad 13) :: rest)) := va_getN (D := D) (ci := 2) (C := RX2) (T := TX2) (N := 10) CF.1 CF.2.1 CF.2.2.2.2 (fun w h => List.mem_cons_of_mem _ (in_X2 w h)) CF.2.2.2.1 hK hP 13 rfl rfl 2 (by decide) (va_Nw.use rfl (hN.1 _ hl)) (fun _ h => h) rfl hdg kk
theorem gc_13_last (CF : CallFix p m c cc nL s args (wA y0 cc nL ret0) own) (hK : va_K D vwCl [(cA, .int)] s) (hP : va_P D vwCl (wC ad cA σ) H) (hl : Cond.fieldLink own idx "DugBySaid$Past" "last" "[I" ∈ wsA) (hdg : decode cc pc = .ok (.getfield idx, 3)) (kk : W p l e R s m args below meth c H locs cells slots Q (F0 m (pc + 3) ls (.ref (ad 17) :: rest))) : W p l e R s m args below meth c H locs cells slots Q (F0 m pc ls (.ref (ad 13) :: rest)) := va_get (D := D) (ci := 2) (C := RX2) (T := TX2) (N := 10) CF.1 CF.2.1 CF.2.2.2.2 (fun w h => List.mem_cons_of_mem _ (in_X2 w h)) CF.2.2.2.1 hK hP 13 rfl rfl 3 (by decide) (CF.2.2.2.2 _ (List.mem_cons_of_mem _ hl)) (fun _ h => h) rfl hdg kk
theorem gcN_13_last (CF : CallFix p m c cc nL s args (wA y0 cc nL ret0) own) (hK : va_K D vwCl [(cA, .int)] s) (hP : va_P D vwCl (wC ad cA σ) H) (hN : NW s) (hl : (own, idx, "DugBySaid$Past", "last", "[I", "DugBySaid") ∈ nwF) (hdg : decode cc pc = .ok (.getfield idx, 3)) (kk : W p l e R s m args below meth c H locs cells slots Q (F0 m (pc + 3) ls (.ref (ad 17) :: rest))) : W p l e R s m args below meth c H locs cells slots Q (F0 m pc ls (.ref (ad 13) :: rest)) := va_getN (D := D) (ci := 2) (C := RX2) (T := TX2) (N := 10) CF.1 CF.2.1 CF.2.2.2.2 (fun w h => List.mem_cons_of_mem _ (in_X2 w h)) CF.2.2.2.1 hK hP 13 rfl rfl 3 (by decide) (va_Nw.use rfl (hN.1 _ hl)) (fun _ h => h) rfl hdg kk
theorem gc_13_denied (CF : CallFix p m c cc nL s args (wA y0 cc nL ret0) own) (hK : va_K D vwCl [(cA, .int)] s) (hP : va_P D vwCl (wC ad cA σ) H) (hl : Cond.fieldLink own idx "DugBySaid$Past" "denied" "[I" ∈ wsA) (hdg : decode cc pc = .ok (.getfield idx, 3)) (kk : W p l e R s m args below meth c H locs cells slots Q (F0 m (pc + 3) ls (.ref (ad 18) :: rest))) : W p l e R s m args below meth c H locs cells slots Q (F0 m pc ls (.ref (ad 13) :: rest)) := va_get (D := D) (ci := 2) (C := RX2) (T := TX2) (N := 10) CF.1 CF.2.1 CF.2.2.2.2 (fun w h => List.mem_cons_of_mem _ (in_X2 w h)) CF.2.2.2.1 hK hP 13 rfl rfl 4 (by decide) (CF.2.2.2.2 _ (List.mem_cons_of_mem _ hl)) (fun _ h => h) rfl hdg kk
theorem gcN_13_denied (CF : CallFix p m c cc nL s args (wA y0 cc nL ret0) own) (hK : va_K D vwCl [(cA, .int)] s) (hP : va_P D vwCl (wC ad cA σ) H) (hN : NW s) (hl : (own, idx, "DugBySaid$Past", "denied", "[I", "DugBySaid") ∈ nwF) (hdg : decode cc pc = .ok (.getfield idx, 3)) (kk : W p l e R s m args below meth c H locs cells slots Q (F0 m (pc + 3) ls (.ref (ad 18) :: rest))) : W p l e R s m args below meth c H locs cells slots Q (F0 m pc ls (.ref (ad 13) :: rest)) := va_getN (D := D) (ci := 2) (C := RX2) (T := TX2) (N := 10) CF.1 CF.2.1 CF.2.2.2.2 (fun w h => List.mem_cons_of_mem _ (in_X2 w h)) CF.2.2.2.1 hK hP 13 rfl rfl 4 (by decide) (va_Nw.use rfl (hN.1 _ hl)) (fun _ h => h) rfl hdg kk
theorem gc_13_askedWhom (CF : CallFix p m c cc nL s args (wA y0 cc nL ret0) own) (hK : va_K D vwCl [(cA, .int)] s) (hP : va_P D vwCl (wC ad cA σ) H) (hl : Cond.fieldLink own idx "DugBySaid$Past" "askedWhom" "[I" ∈ wsA) (hdg : decode cc pc = .ok (.getfield idx, 3)) (kk : W p l e R s m args below meth c H locs cells slots Q (F0 m (pc + 3) ls (.ref (ad 19) :: rest))) : W p l e R s m args below meth c H locs cells slots Q (F0 m pc ls (.ref (ad 13) :: rest)) := va_get (D := D) (ci := 2) (C := RX2) (T := TX2) (N := 10) CF.1 CF.2.1 CF.2.2.2.2 (fun w h => List.mem_cons_of_mem _ (in_X2 w h)) CF.2.2.2.1 hK hP 13 rfl rfl 5 (by decide) (CF.2.2.2.2 _ (List.mem_cons_of_mem _ hl)) (fun _ h => h) rfl hdg kk
theorem gcN_13_askedWhom (CF : CallFix p m c cc nL s args (wA y0 cc nL ret0) own) (hK : va_K D vwCl [(cA, .int)] s) (hP : va_P D vwCl (wC ad cA σ) H) (hN : NW s) (hl : (own, idx, "DugBySaid$Past", "askedWhom", "[I", "DugBySaid") ∈ nwF) (hdg : decode cc pc = .ok (.getfield idx, 3)) (kk : W p l e R s m args below meth c H locs cells slots Q (F0 m (pc + 3) ls (.ref (ad 19) :: rest))) : W p l e R s m args below meth c H locs cells slots Q (F0 m pc ls (.ref (ad 13) :: rest)) := va_getN (D := D) (ci := 2) (C := RX2) (T := TX2) (N := 10) CF.1 CF.2.1 CF.2.2.2.2 (fun w h => List.mem_cons_of_mem _ (in_X2 w h)) CF.2.2.2.1 hK hP 13 rfl rfl 5 (by decide) (va_Nw.use rfl (hN.1 _ hl)) (fun _ h => h) rfl hdg kk
theorem gc_13_askedDay (CF : CallFix p m c cc nL s args (wA y0 cc nL ret0) own) (hK : va_K D vwCl [(cA, .int)] s) (hP : va_P D vwCl (wC ad cA σ) H) (hl : Cond.fieldLink own idx "DugBySaid$Past" "askedDay" "[I" ∈ wsA) (hdg : decode cc pc = .ok (.getfield idx, 3)) (kk : W p l e R s m args below meth c H locs cells slots Q (F0 m (pc + 3) ls (.ref (ad 20) :: rest))) : W p l e R s m args below meth c H locs cells slots Q (F0 m pc ls (.ref (ad 13) :: rest)) := va_get (D := D) (ci := 2) (C := RX2) (T := TX2) (N := 10) CF.1 CF.2.1 CF.2.2.2.2 (fun w h => List.mem_cons_of_mem _ (in_X2 w h)) CF.2.2.2.1 hK hP 13 rfl rfl 6 (by decide) (CF.2.2.2.2 _ (List.mem_cons_of_mem _ hl)) (fun _ h => h) rfl hdg kk
theorem gcN_13_askedDay (CF : CallFix p m c cc nL s args (wA y0 cc nL ret0) own) (hK : va_K D vwCl [(cA, .int)] s) (hP : va_P D vwCl (wC ad cA σ) H) (hN : NW s) (hl : (own, idx, "DugBySaid$Past", "askedDay", "[I", "DugBySaid") ∈ nwF) (hdg : decode cc pc = .ok (.getfield idx, 3)) (kk : W p l e R s m args below meth c H locs cells slots Q (F0 m (pc + 3) ls (.ref (ad 20) :: rest))) : W p l e R s m args below meth c H locs cells slots Q (F0 m pc ls (.ref (ad 13) :: rest)) := va_getN (D := D) (ci := 2) (C := RX2) (T := TX2) (N := 10) CF.1 CF.2.1 CF.2.2.2.2 (fun w h => List.mem_cons_of_mem _ (in_X2 w h)) CF.2.2.2.1 hK hP 13 rfl rfl 6 (by decide) (va_Nw.use rfl (hN.1 _ hl)) (fun _ h => h) rfl hdg kk
theorem wc_kasked (v : Int32) : (wC ad cA σ).set 13 (ad 13, .inr (2, ([.ref (ad 14), .ref (ad 15), .ref (ad 16), .ref (ad 17), .ref (ad 18), .ref (ad 19), .ref (ad 20), .int (c_kasked σ), .int (c_kdays σ), .int (c_kchanges σ)] : List Value).set 7 (.int v))) = wC ad cA (sc_kasked σ v) := rfl
theorem gc_13_asked (CF : CallFix p m c cc nL s args (wA y0 cc nL ret0) own) (hK : va_K D vwCl [(cA, .int)] s) (hP : va_P D vwCl (wC ad cA σ) H) (hl : Cond.fieldLink own idx "DugBySaid$Past" "asked" "I" ∈ wsA) (hdg : decode cc pc = .ok (.getfield idx, 3)) (kk : W p l e R s m args below meth c H locs cells slots Q (F0 m (pc + 3) ls (.int (c_kasked σ) :: rest))) : W p l e R s m args below meth c H locs cells slots Q (F0 m pc ls (.ref (ad 13) :: rest)) := va_get (D := D) (ci := 2) (C := RX2) (T := TX2) (N := 10) CF.1 CF.2.1 CF.2.2.2.2 (fun w h => List.mem_cons_of_mem _ (in_X2 w h)) CF.2.2.2.1 hK hP 13 rfl rfl 7 (by decide) (CF.2.2.2.2 _ (List.mem_cons_of_mem _ hl)) (fun _ h => h) rfl hdg kk
theorem pc_13_asked (CF : CallFix p m c cc nL s args (wA y0 cc nL ret0) own) (hK : va_K D vwCl [(cA, .int)] s) (hP : va_P D vwCl (wC ad cA σ) H) (hD : va_D A (wC ad cA σ)) (hS : va_S A s.heap H locs) {x : Int32} (hl : Cond.fieldLink own idx "DugBySaid$Past" "asked" "I" ∈ wsA) (hdg : decode cc pc = .ok (.putfield idx, 3)) (kk : ∀ (H1 : Heap) (locs1 : List Loc), va_P D vwCl (wC ad cA (sc_kasked σ x)) H1 → va_D A (wC ad cA (sc_kasked σ x)) → va_S A s.heap H1 locs1 → W p l e R s m args below meth c H1 locs1 cells slots Q (F0 m (pc + 3) ls rest)) : W p l e R s m args below meth c H locs cells slots Q (F0 m pc ls (.int x :: .ref (ad 13) :: rest)) := va_put (ty := .int) (v := .int x) (D := D) (ci := 2) (C := RX2) (T := TX2) (N := 10) CF.1 CF.2.1 CF.2.2.2.2 (fun w h => List.mem_cons_of_mem _ (in_X2 w h)) tyX2 tyX2_ok nmX2 CF.2.2.2.1 hK hP hD hS 13 rfl rfl 7 (by decide) (CF.2.2.2.2 _ (List.mem_cons_of_mem _ hl)) (fun _ h => h) rfl (by decide +kernel) rfl rfl (Nat.le_of_ble_eq_true rfl) hdg (fun H1 locs1 h1 h2 h3 => kk H1 locs1 (Eq.mp (congrArg (fun w => va_P D vwCl w H1) (wc_kasked _)) h1) (Eq.mp (congrArg (fun w => va_D A w) (wc_kasked _)) h2) h3)
theorem gcN_13_asked (CF : CallFix p m c cc nL s args (wA y0 cc nL ret0) own) (hK : va_K D vwCl [(cA, .int)] s) (hP : va_P D vwCl (wC ad cA σ) H) (hN : NW s) (hl : (own, idx, "DugBySaid$Past", "asked", "I", "DugBySaid") ∈ nwF) (hdg : decode cc pc = .ok (.getfield idx, 3)) (kk : W p l e R s m args below meth c H locs cells slots Q (F0 m (pc + 3) ls (.int (c_kasked σ) :: rest))) : W p l e R s m args below meth c H locs cells slots Q (F0 m pc ls (.ref (ad 13) :: rest)) := va_getN (D := D) (ci := 2) (C := RX2) (T := TX2) (N := 10) CF.1 CF.2.1 CF.2.2.2.2 (fun w h => List.mem_cons_of_mem _ (in_X2 w h)) CF.2.2.2.1 hK hP 13 rfl rfl 7 (by decide) (va_Nw.use rfl (hN.1 _ hl)) (fun _ h => h) rfl hdg kk
theorem pcN_13_asked (CF : CallFix p m c cc nL s args (wA y0 cc nL ret0) own) (hK : va_K D vwCl [(cA, .int)] s) (hP : va_P D vwCl (wC ad cA σ) H) (hD : va_D A (wC ad cA σ)) (hS : va_S A s.heap H locs) {x : Int32} (hN : NW s) (hl : (own, idx, "DugBySaid$Past", "asked", "I", "DugBySaid") ∈ nwF) (hdg : decode cc pc = .ok (.putfield idx, 3)) (kk : ∀ (H1 : Heap) (locs1 : List Loc), va_P D vwCl (wC ad cA (sc_kasked σ x)) H1 → va_D A (wC ad cA (sc_kasked σ x)) → va_S A s.heap H1 locs1 → W p l e R s m args below meth c H1 locs1 cells slots Q (F0 m (pc + 3) ls rest)) : W p l e R s m args below meth c H locs cells slots Q (F0 m pc ls (.int x :: .ref (ad 13) :: rest)) := va_putN (ty := .int) (v := .int x) (D := D) (ci := 2) (C := RX2) (T := TX2) (N := 10) CF.1 CF.2.1 CF.2.2.2.2 (fun w h => List.mem_cons_of_mem _ (in_X2 w h)) tyX2 tyX2_ok nmX2 CF.2.2.2.1 hK hP hD hS 13 rfl rfl 7 (by decide) (va_Nw.use rfl (hN.1 _ hl)) (fun _ h => h) rfl (by decide +kernel) rfl rfl (Nat.le_of_ble_eq_true rfl) hdg (fun H1 locs1 h1 h2 h3 => kk H1 locs1 (Eq.mp (congrArg (fun w => va_P D vwCl w H1) (wc_kasked _)) h1) (Eq.mp (congrArg (fun w => va_D A w) (wc_kasked _)) h2) h3)
theorem wc_kdays (v : Int32) : (wC ad cA σ).set 13 (ad 13, .inr (2, ([.ref (ad 14), .ref (ad 15), .ref (ad 16), .ref (ad 17), .ref (ad 18), .ref (ad 19), .ref (ad 20), .int (c_kasked σ), .int (c_kdays σ), .int (c_kchanges σ)] : List Value).set 8 (.int v))) = wC ad cA (sc_kdays σ v) := rfl
theorem gc_13_days (CF : CallFix p m c cc nL s args (wA y0 cc nL ret0) own) (hK : va_K D vwCl [(cA, .int)] s) (hP : va_P D vwCl (wC ad cA σ) H) (hl : Cond.fieldLink own idx "DugBySaid$Past" "days" "I" ∈ wsA) (hdg : decode cc pc = .ok (.getfield idx, 3)) (kk : W p l e R s m args below meth c H locs cells slots Q (F0 m (pc + 3) ls (.int (c_kdays σ) :: rest))) : W p l e R s m args below meth c H locs cells slots Q (F0 m pc ls (.ref (ad 13) :: rest)) := va_get (D := D) (ci := 2) (C := RX2) (T := TX2) (N := 10) CF.1 CF.2.1 CF.2.2.2.2 (fun w h => List.mem_cons_of_mem _ (in_X2 w h)) CF.2.2.2.1 hK hP 13 rfl rfl 8 (by decide) (CF.2.2.2.2 _ (List.mem_cons_of_mem _ hl)) (fun _ h => h) rfl hdg kk
theorem pc_13_days (CF : CallFix p m c cc nL s args (wA y0 cc nL ret0) own) (hK : va_K D vwCl [(cA, .int)] s) (hP : va_P D vwCl (wC ad cA σ) H) (hD : va_D A (wC ad cA σ)) (hS : va_S A s.heap H locs) {x : Int32} (hl : Cond.fieldLink own idx "DugBySaid$Past" "days" "I" ∈ wsA) (hdg : decode cc pc = .ok (.putfield idx, 3)) (kk : ∀ (H1 : Heap) (locs1 : List Loc), va_P D vwCl (wC ad cA (sc_kdays σ x)) H1 → va_D A (wC ad cA (sc_kdays σ x)) → va_S A s.heap H1 locs1 → W p l e R s m args below meth c H1 locs1 cells slots Q (F0 m (pc + 3) ls rest)) : W p l e R s m args below meth c H locs cells slots Q (F0 m pc ls (.int x :: .ref (ad 13) :: rest)) := va_put (ty := .int) (v := .int x) (D := D) (ci := 2) (C := RX2) (T := TX2) (N := 10) CF.1 CF.2.1 CF.2.2.2.2 (fun w h => List.mem_cons_of_mem _ (in_X2 w h)) tyX2 tyX2_ok nmX2 CF.2.2.2.1 hK hP hD hS 13 rfl rfl 8 (by decide) (CF.2.2.2.2 _ (List.mem_cons_of_mem _ hl)) (fun _ h => h) rfl (by decide +kernel) rfl rfl (Nat.le_of_ble_eq_true rfl) hdg (fun H1 locs1 h1 h2 h3 => kk H1 locs1 (Eq.mp (congrArg (fun w => va_P D vwCl w H1) (wc_kdays _)) h1) (Eq.mp (congrArg (fun w => va_D A w) (wc_kdays _)) h2) h3)
theorem gcN_13_days (CF : CallFix p m c cc nL s args (wA y0 cc nL ret0) own) (hK : va_K D vwCl [(cA, .int)] s) (hP : va_P D vwCl (wC ad cA σ) H) (hN : NW s) (hl : (own, idx, "DugBySaid$Past", "days", "I", "DugBySaid") ∈ nwF) (hdg : decode cc pc = .ok (.getfield idx, 3)) (kk : W p l e R s m args below meth c H locs cells slots Q (F0 m (pc + 3) ls (.int (c_kdays σ) :: rest))) : W p l e R s m args below meth c H locs cells slots Q (F0 m pc ls (.ref (ad 13) :: rest)) := va_getN (D := D) (ci := 2) (C := RX2) (T := TX2) (N := 10) CF.1 CF.2.1 CF.2.2.2.2 (fun w h => List.mem_cons_of_mem _ (in_X2 w h)) CF.2.2.2.1 hK hP 13 rfl rfl 8 (by decide) (va_Nw.use rfl (hN.1 _ hl)) (fun _ h => h) rfl hdg kk
theorem pcN_13_days (CF : CallFix p m c cc nL s args (wA y0 cc nL ret0) own) (hK : va_K D vwCl [(cA, .int)] s) (hP : va_P D vwCl (wC ad cA σ) H) (hD : va_D A (wC ad cA σ)) (hS : va_S A s.heap H locs) {x : Int32} (hN : NW s) (hl : (own, idx, "DugBySaid$Past", "days", "I", "DugBySaid") ∈ nwF) (hdg : decode cc pc = .ok (.putfield idx, 3)) (kk : ∀ (H1 : Heap) (locs1 : List Loc), va_P D vwCl (wC ad cA (sc_kdays σ x)) H1 → va_D A (wC ad cA (sc_kdays σ x)) → va_S A s.heap H1 locs1 → W p l e R s m args below meth c H1 locs1 cells slots Q (F0 m (pc + 3) ls rest)) : W p l e R s m args below meth c H locs cells slots Q (F0 m pc ls (.int x :: .ref (ad 13) :: rest)) := va_putN (ty := .int) (v := .int x) (D := D) (ci := 2) (C := RX2) (T := TX2) (N := 10) CF.1 CF.2.1 CF.2.2.2.2 (fun w h => List.mem_cons_of_mem _ (in_X2 w h)) tyX2 tyX2_ok nmX2 CF.2.2.2.1 hK hP hD hS 13 rfl rfl 8 (by decide) (va_Nw.use rfl (hN.1 _ hl)) (fun _ h => h) rfl (by decide +kernel) rfl rfl (Nat.le_of_ble_eq_true rfl) hdg (fun H1 locs1 h1 h2 h3 => kk H1 locs1 (Eq.mp (congrArg (fun w => va_P D vwCl w H1) (wc_kdays _)) h1) (Eq.mp (congrArg (fun w => va_D A w) (wc_kdays _)) h2) h3)
theorem wc_kchanges (v : Int32) : (wC ad cA σ).set 13 (ad 13, .inr (2, ([.ref (ad 14), .ref (ad 15), .ref (ad 16), .ref (ad 17), .ref (ad 18), .ref (ad 19), .ref (ad 20), .int (c_kasked σ), .int (c_kdays σ), .int (c_kchanges σ)] : List Value).set 9 (.int v))) = wC ad cA (sc_kchanges σ v) := rfl
theorem gc_13_changes (CF : CallFix p m c cc nL s args (wA y0 cc nL ret0) own) (hK : va_K D vwCl [(cA, .int)] s) (hP : va_P D vwCl (wC ad cA σ) H) (hl : Cond.fieldLink own idx "DugBySaid$Past" "changes" "I" ∈ wsA) (hdg : decode cc pc = .ok (.getfield idx, 3)) (kk : W p l e R s m args below meth c H locs cells slots Q (F0 m (pc + 3) ls (.int (c_kchanges σ) :: rest))) : W p l e R s m args below meth c H locs cells slots Q (F0 m pc ls (.ref (ad 13) :: rest)) := va_get (D := D) (ci := 2) (C := RX2) (T := TX2) (N := 10) CF.1 CF.2.1 CF.2.2.2.2 (fun w h => List.mem_cons_of_mem _ (in_X2 w h)) CF.2.2.2.1 hK hP 13 rfl rfl 9 (by decide) (CF.2.2.2.2 _ (List.mem_cons_of_mem _ hl)) (fun _ h => h) rfl hdg kk
theorem pc_13_changes (CF : CallFix p m c cc nL s args (wA y0 cc nL ret0) own) (hK : va_K D vwCl [(cA, .int)] s) (hP : va_P D vwCl (wC ad cA σ) H) (hD : va_D A (wC ad cA σ)) (hS : va_S A s.heap H locs) {x : Int32} (hl : Cond.fieldLink own idx "DugBySaid$Past" "changes" "I" ∈ wsA) (hdg : decode cc pc = .ok (.putfield idx, 3)) (kk : ∀ (H1 : Heap) (locs1 : List Loc), va_P D vwCl (wC ad cA (sc_kchanges σ x)) H1 → va_D A (wC ad cA (sc_kchanges σ x)) → va_S A s.heap H1 locs1 → W p l e R s m args below meth c H1 locs1 cells slots Q (F0 m (pc + 3) ls rest)) : W p l e R s m args below meth c H locs cells slots Q (F0 m pc ls (.int x :: .ref (ad 13) :: rest)) := va_put (ty := .int) (v := .int x) (D := D) (ci := 2) (C := RX2) (T := TX2) (N := 10) CF.1 CF.2.1 CF.2.2.2.2 (fun w h => List.mem_cons_of_mem _ (in_X2 w h)) tyX2 tyX2_ok nmX2 CF.2.2.2.1 hK hP hD hS 13 rfl rfl 9 (by decide) (CF.2.2.2.2 _ (List.mem_cons_of_mem _ hl)) (fun _ h => h) rfl (by decide +kernel) rfl rfl (Nat.le_of_ble_eq_true rfl) hdg (fun H1 locs1 h1 h2 h3 => kk H1 locs1 (Eq.mp (congrArg (fun w => va_P D vwCl w H1) (wc_kchanges _)) h1) (Eq.mp (congrArg (fun w => va_D A w) (wc_kchanges _)) h2) h3)
theorem gcN_13_changes (CF : CallFix p m c cc nL s args (wA y0 cc nL ret0) own) (hK : va_K D vwCl [(cA, .int)] s) (hP : va_P D vwCl (wC ad cA σ) H) (hN : NW s) (hl : (own, idx, "DugBySaid$Past", "changes", "I", "DugBySaid") ∈ nwF) (hdg : decode cc pc = .ok (.getfield idx, 3)) (kk : W p l e R s m args below meth c H locs cells slots Q (F0 m (pc + 3) ls (.int (c_kchanges σ) :: rest))) : W p l e R s m args below meth c H locs cells slots Q (F0 m pc ls (.ref (ad 13) :: rest)) := va_getN (D := D) (ci := 2) (C := RX2) (T := TX2) (N := 10) CF.1 CF.2.1 CF.2.2.2.2 (fun w h => List.mem_cons_of_mem _ (in_X2 w h)) CF.2.2.2.1 hK hP 13 rfl rfl 9 (by decide) (va_Nw.use rfl (hN.1 _ hl)) (fun _ h => h) rfl hdg kk
theorem pcN_13_changes (CF : CallFix p m c cc nL s args (wA y0 cc nL ret0) own) (hK : va_K D vwCl [(cA, .int)] s) (hP : va_P D vwCl (wC ad cA σ) H) (hD : va_D A (wC ad cA σ)) (hS : va_S A s.heap H locs) {x : Int32} (hN : NW s) (hl : (own, idx, "DugBySaid$Past", "changes", "I", "DugBySaid") ∈ nwF) (hdg : decode cc pc = .ok (.putfield idx, 3)) (kk : ∀ (H1 : Heap) (locs1 : List Loc), va_P D vwCl (wC ad cA (sc_kchanges σ x)) H1 → va_D A (wC ad cA (sc_kchanges σ x)) → va_S A s.heap H1 locs1 → W p l e R s m args below meth c H1 locs1 cells slots Q (F0 m (pc + 3) ls rest)) : W p l e R s m args below meth c H locs cells slots Q (F0 m pc ls (.int x :: .ref (ad 13) :: rest)) := va_putN (ty := .int) (v := .int x) (D := D) (ci := 2) (C := RX2) (T := TX2) (N := 10) CF.1 CF.2.1 CF.2.2.2.2 (fun w h => List.mem_cons_of_mem _ (in_X2 w h)) tyX2 tyX2_ok nmX2 CF.2.2.2.1 hK hP hD hS 13 rfl rfl 9 (by decide) (va_Nw.use rfl (hN.1 _ hl)) (fun _ h => h) rfl (by decide +kernel) rfl rfl (Nat.le_of_ble_eq_true rfl) hdg (fun H1 locs1 h1 h2 h3 => kk H1 locs1 (Eq.mp (congrArg (fun w => va_P D vwCl w H1) (wc_kchanges _)) h1) (Eq.mp (congrArg (fun w => va_D A w) (wc_kchanges _)) h2) h3)
theorem lc_knexts (hx : p.tables.exec = Jvm.exec) (hb : c.code = cc) (hK : va_K D vwCl [(cA, .int)] s) (hP : va_P D vwCl (wC ad cA σ) H) {i : Int32} (hin : inB i 6) (hdg : decode cc pc = .ok (.iaload, 1)) (kk : W p l e R s m args below meth c H locs cells slots Q (F0 m (pc + 1) ls (.int (c_knexts σ i.toNatClampNeg) :: rest))) : W p l e R s m args below meth c H locs cells slots Q (F0 m pc ls (.int i :: .ref (ad 14) :: rest)) := va_iald hx hb hK hP 14 0 rfl rfl hin hdg kk
theorem wc_knexts (v : Nat → Int32) : (wC ad cA σ).set 14 (ad 14, .inl (cA, 6, .inl v)) = wC ad cA (sc_knexts σ v) := rfl
theorem ac_knexts (hx : p.tables.exec = Jvm.exec) (hb : c.code = cc) (hK : va_K D vwCl [(cA, .int)] s) (hP : va_P D vwCl (wC ad cA σ) H) (hD : va_D A (wC ad cA σ)) (hS : va_S A s.heap H locs) {i x : Int32} (hin : inB i 6) (hdg : decode cc pc = .ok (.iastore, 1)) (kk : ∀ (H1 : Heap) (locs1 : List Loc), va_P D vwCl (wC ad cA (sc_knexts σ (upd (c_knexts σ) i.toNatClampNeg x))) H1 → va_D A (wC ad cA (sc_knexts σ (upd (c_knexts σ) i.toNatClampNeg x))) → va_S A s.heap H1 locs1 → W p l e R s m args below meth c H1 locs1 cells slots Q (F0 m (pc + 1) ls rest)) : W p l e R s m args below meth c H locs cells slots Q (F0 m pc ls (.int x :: .int i :: .ref (ad 14) :: rest)) := va_iast hx hb hK hP hD hS 14 0 rfl rfl hin hdg (fun H1 locs1 h1 h2 h3 => kk H1 locs1 (Eq.mp (congrArg (fun w => va_P D vwCl w H1) (wc_knexts _)) h1) (Eq.mp (congrArg (fun w => va_D A w) (wc_knexts _)) h2) h3)
theorem nc_knexts (hx : p.tables.exec = Jvm.exec) (hb : c.code = cc) (hK : va_K D vwCl [(cA, .int)] s) (hP : va_P D vwCl (wC ad cA σ) H) (hdg : decode cc pc = .ok (.arraylength, 1)) (kk : W p l e R s m args below meth c H locs cells slots Q (F0 m (pc + 1) ls (.int 6 :: rest))) : W p l e R s m args below meth c H locs cells slots Q (F0 m pc ls (.ref (ad 14) :: rest)) := va_alen hx hb hK hP 14 0 rfl rfl (v := 6) rfl hdg kk
theorem lc_klsts (hx : p.tables.exec = Jvm.exec) (hb : c.code = cc) (hK : va_K D vwCl [(cA, .int)] s) (hP : va_P D vwCl (wC ad cA σ) H) {i : Int32} (hin : inB i 6) (hdg : decode cc pc = .ok (.iaload, 1)) (kk : W p l e R s m args below meth c H locs cells slots Q (F0 m (pc + 1) ls (.int (c_klsts σ i.toNatClampNeg) :: rest))) : W p l e R s m args below meth c H locs cells slots Q (F0 m pc ls (.int i :: .ref (ad 15) :: rest)) := va_iald hx hb hK hP 15 0 rfl rfl hin hdg kk
theorem wc_klsts (v : Nat → Int32) : (wC ad cA σ).set 15 (ad 15, .inl (cA, 6, .inl v)) = wC ad cA (sc_klsts σ v) := rfl
theorem ac_klsts (hx : p.tables.exec = Jvm.exec) (hb : c.code = cc) (hK : va_K D vwCl [(cA, .int)] s) (hP : va_P D vwCl (wC ad cA σ) H) (hD : va_D A (wC ad cA σ)) (hS : va_S A s.heap H locs) {i x : Int32} (hin : inB i 6) (hdg : decode cc pc = .ok (.iastore, 1)) (kk : ∀ (H1 : Heap) (locs1 : List Loc), va_P D vwCl (wC ad cA (sc_klsts σ (upd (c_klsts σ) i.toNatClampNeg x))) H1 → va_D A (wC ad cA (sc_klsts σ (upd (c_klsts σ) i.toNatClampNeg x))) → va_S A s.heap H1 locs1 → W p l e R s m args below meth c H1 locs1 cells slots Q (F0 m (pc + 1) ls rest)) : W p l e R s m args below meth c H locs cells slots Q (F0 m pc ls (.int x :: .int i :: .ref (ad 15) :: rest)) := va_iast hx hb hK hP hD hS 15 0 rfl rfl hin hdg (fun H1 locs1 h1 h2 h3 => kk H1 locs1 (Eq.mp (congrArg (fun w => va_P D vwCl w H1) (wc_klsts _)) h1) (Eq.mp (congrArg (fun w => va_D A w) (wc_klsts _)) h2) h3)
theorem nc_klsts (hx : p.tables.exec = Jvm.exec) (hb : c.code = cc) (hK : va_K D vwCl [(cA, .int)] s) (hP : va_P D vwCl (wC ad cA σ) H) (hdg : decode cc pc = .ok (.arraylength, 1)) (kk : W p l e R s m args below meth c H locs cells slots Q (F0 m (pc + 1) ls (.int 6 :: rest))) : W p l e R s m args below meth c H locs cells slots Q (F0 m pc ls (.ref (ad 15) :: rest)) := va_alen hx hb hK hP 15 0 rfl rfl (v := 6) rfl hdg kk
theorem lc_kheard (hx : p.tables.exec = Jvm.exec) (hb : c.code = cc) (hK : va_K D vwCl [(cA, .int)] s) (hP : va_P D vwCl (wC ad cA σ) H) {i : Int32} (hin : inB i 3) (hdg : decode cc pc = .ok (.iaload, 1)) (kk : W p l e R s m args below meth c H locs cells slots Q (F0 m (pc + 1) ls (.int (c_kheard σ i.toNatClampNeg) :: rest))) : W p l e R s m args below meth c H locs cells slots Q (F0 m pc ls (.int i :: .ref (ad 16) :: rest)) := va_iald hx hb hK hP 16 0 rfl rfl hin hdg kk
theorem wc_kheard (v : Nat → Int32) : (wC ad cA σ).set 16 (ad 16, .inl (cA, 3, .inl v)) = wC ad cA (sc_kheard σ v) := rfl
theorem ac_kheard (hx : p.tables.exec = Jvm.exec) (hb : c.code = cc) (hK : va_K D vwCl [(cA, .int)] s) (hP : va_P D vwCl (wC ad cA σ) H) (hD : va_D A (wC ad cA σ)) (hS : va_S A s.heap H locs) {i x : Int32} (hin : inB i 3) (hdg : decode cc pc = .ok (.iastore, 1)) (kk : ∀ (H1 : Heap) (locs1 : List Loc), va_P D vwCl (wC ad cA (sc_kheard σ (upd (c_kheard σ) i.toNatClampNeg x))) H1 → va_D A (wC ad cA (sc_kheard σ (upd (c_kheard σ) i.toNatClampNeg x))) → va_S A s.heap H1 locs1 → W p l e R s m args below meth c H1 locs1 cells slots Q (F0 m (pc + 1) ls rest)) : W p l e R s m args below meth c H locs cells slots Q (F0 m pc ls (.int x :: .int i :: .ref (ad 16) :: rest)) := va_iast hx hb hK hP hD hS 16 0 rfl rfl hin hdg (fun H1 locs1 h1 h2 h3 => kk H1 locs1 (Eq.mp (congrArg (fun w => va_P D vwCl w H1) (wc_kheard _)) h1) (Eq.mp (congrArg (fun w => va_D A w) (wc_kheard _)) h2) h3)
theorem nc_kheard (hx : p.tables.exec = Jvm.exec) (hb : c.code = cc) (hK : va_K D vwCl [(cA, .int)] s) (hP : va_P D vwCl (wC ad cA σ) H) (hdg : decode cc pc = .ok (.arraylength, 1)) (kk : W p l e R s m args below meth c H locs cells slots Q (F0 m (pc + 1) ls (.int 3 :: rest))) : W p l e R s m args below meth c H locs cells slots Q (F0 m pc ls (.ref (ad 16) :: rest)) := va_alen hx hb hK hP 16 0 rfl rfl (v := 3) rfl hdg kk
theorem lc_klast (hx : p.tables.exec = Jvm.exec) (hb : c.code = cc) (hK : va_K D vwCl [(cA, .int)] s) (hP : va_P D vwCl (wC ad cA σ) H) {i : Int32} (hin : inB i 3) (hdg : decode cc pc = .ok (.iaload, 1)) (kk : W p l e R s m args below meth c H locs cells slots Q (F0 m (pc + 1) ls (.int (c_klast σ i.toNatClampNeg) :: rest))) : W p l e R s m args below meth c H locs cells slots Q (F0 m pc ls (.int i :: .ref (ad 17) :: rest)) := va_iald hx hb hK hP 17 0 rfl rfl hin hdg kk
theorem wc_klast (v : Nat → Int32) : (wC ad cA σ).set 17 (ad 17, .inl (cA, 3, .inl v)) = wC ad cA (sc_klast σ v) := rfl
theorem ac_klast (hx : p.tables.exec = Jvm.exec) (hb : c.code = cc) (hK : va_K D vwCl [(cA, .int)] s) (hP : va_P D vwCl (wC ad cA σ) H) (hD : va_D A (wC ad cA σ)) (hS : va_S A s.heap H locs) {i x : Int32} (hin : inB i 3) (hdg : decode cc pc = .ok (.iastore, 1)) (kk : ∀ (H1 : Heap) (locs1 : List Loc), va_P D vwCl (wC ad cA (sc_klast σ (upd (c_klast σ) i.toNatClampNeg x))) H1 → va_D A (wC ad cA (sc_klast σ (upd (c_klast σ) i.toNatClampNeg x))) → va_S A s.heap H1 locs1 → W p l e R s m args below meth c H1 locs1 cells slots Q (F0 m (pc + 1) ls rest)) : W p l e R s m args below meth c H locs cells slots Q (F0 m pc ls (.int x :: .int i :: .ref (ad 17) :: rest)) := va_iast hx hb hK hP hD hS 17 0 rfl rfl hin hdg (fun H1 locs1 h1 h2 h3 => kk H1 locs1 (Eq.mp (congrArg (fun w => va_P D vwCl w H1) (wc_klast _)) h1) (Eq.mp (congrArg (fun w => va_D A w) (wc_klast _)) h2) h3)
theorem nc_klast (hx : p.tables.exec = Jvm.exec) (hb : c.code = cc) (hK : va_K D vwCl [(cA, .int)] s) (hP : va_P D vwCl (wC ad cA σ) H) (hdg : decode cc pc = .ok (.arraylength, 1)) (kk : W p l e R s m args below meth c H locs cells slots Q (F0 m (pc + 1) ls (.int 3 :: rest))) : W p l e R s m args below meth c H locs cells slots Q (F0 m pc ls (.ref (ad 17) :: rest)) := va_alen hx hb hK hP 17 0 rfl rfl (v := 3) rfl hdg kk
theorem lc_kdenied (hx : p.tables.exec = Jvm.exec) (hb : c.code = cc) (hK : va_K D vwCl [(cA, .int)] s) (hP : va_P D vwCl (wC ad cA σ) H) {i : Int32} (hin : inB i 3) (hdg : decode cc pc = .ok (.iaload, 1)) (kk : W p l e R s m args below meth c H locs cells slots Q (F0 m (pc + 1) ls (.int (c_kdenied σ i.toNatClampNeg) :: rest))) : W p l e R s m args below meth c H locs cells slots Q (F0 m pc ls (.int i :: .ref (ad 18) :: rest)) := va_iald hx hb hK hP 18 0 rfl rfl hin hdg kk
theorem wc_kdenied (v : Nat → Int32) : (wC ad cA σ).set 18 (ad 18, .inl (cA, 3, .inl v)) = wC ad cA (sc_kdenied σ v) := rfl
theorem ac_kdenied (hx : p.tables.exec = Jvm.exec) (hb : c.code = cc) (hK : va_K D vwCl [(cA, .int)] s) (hP : va_P D vwCl (wC ad cA σ) H) (hD : va_D A (wC ad cA σ)) (hS : va_S A s.heap H locs) {i x : Int32} (hin : inB i 3) (hdg : decode cc pc = .ok (.iastore, 1)) (kk : ∀ (H1 : Heap) (locs1 : List Loc), va_P D vwCl (wC ad cA (sc_kdenied σ (upd (c_kdenied σ) i.toNatClampNeg x))) H1 → va_D A (wC ad cA (sc_kdenied σ (upd (c_kdenied σ) i.toNatClampNeg x))) → va_S A s.heap H1 locs1 → W p l e R s m args below meth c H1 locs1 cells slots Q (F0 m (pc + 1) ls rest)) : W p l e R s m args below meth c H locs cells slots Q (F0 m pc ls (.int x :: .int i :: .ref (ad 18) :: rest)) := va_iast hx hb hK hP hD hS 18 0 rfl rfl hin hdg (fun H1 locs1 h1 h2 h3 => kk H1 locs1 (Eq.mp (congrArg (fun w => va_P D vwCl w H1) (wc_kdenied _)) h1) (Eq.mp (congrArg (fun w => va_D A w) (wc_kdenied _)) h2) h3)
theorem nc_kdenied (hx : p.tables.exec = Jvm.exec) (hb : c.code = cc) (hK : va_K D vwCl [(cA, .int)] s) (hP : va_P D vwCl (wC ad cA σ) H) (hdg : decode cc pc = .ok (.arraylength, 1)) (kk : W p l e R s m args below meth c H locs cells slots Q (F0 m (pc + 1) ls (.int 3 :: rest))) : W p l e R s m args below meth c H locs cells slots Q (F0 m pc ls (.ref (ad 18) :: rest)) := va_alen hx hb hK hP 18 0 rfl rfl (v := 3) rfl hdg kk
theorem lc_kwhom (hx : p.tables.exec = Jvm.exec) (hb : c.code = cc) (hK : va_K D vwCl [(cA, .int)] s) (hP : va_P D vwCl (wC ad cA σ) H) {i : Int32} (hin : inB i 8) (hdg : decode cc pc = .ok (.iaload, 1)) (kk : W p l e R s m args below meth c H locs cells slots Q (F0 m (pc + 1) ls (.int (c_kwhom σ i.toNatClampNeg) :: rest))) : W p l e R s m args below meth c H locs cells slots Q (F0 m pc ls (.int i :: .ref (ad 19) :: rest)) := va_iald hx hb hK hP 19 0 rfl rfl hin hdg kk
theorem wc_kwhom (v : Nat → Int32) : (wC ad cA σ).set 19 (ad 19, .inl (cA, 8, .inl v)) = wC ad cA (sc_kwhom σ v) := rfl
theorem ac_kwhom (hx : p.tables.exec = Jvm.exec) (hb : c.code = cc) (hK : va_K D vwCl [(cA, .int)] s) (hP : va_P D vwCl (wC ad cA σ) H) (hD : va_D A (wC ad cA σ)) (hS : va_S A s.heap H locs) {i x : Int32} (hin : inB i 8) (hdg : decode cc pc = .ok (.iastore, 1)) (kk : ∀ (H1 : Heap) (locs1 : List Loc), va_P D vwCl (wC ad cA (sc_kwhom σ (upd (c_kwhom σ) i.toNatClampNeg x))) H1 → va_D A (wC ad cA (sc_kwhom σ (upd (c_kwhom σ) i.toNatClampNeg x))) → va_S A s.heap H1 locs1 → W p l e R s m args below meth c H1 locs1 cells slots Q (F0 m (pc + 1) ls rest)) : W p l e R s m args below meth c H locs cells slots Q (F0 m pc ls (.int x :: .int i :: .ref (ad 19) :: rest)) := va_iast hx hb hK hP hD hS 19 0 rfl rfl hin hdg (fun H1 locs1 h1 h2 h3 => kk H1 locs1 (Eq.mp (congrArg (fun w => va_P D vwCl w H1) (wc_kwhom _)) h1) (Eq.mp (congrArg (fun w => va_D A w) (wc_kwhom _)) h2) h3)
theorem nc_kwhom (hx : p.tables.exec = Jvm.exec) (hb : c.code = cc) (hK : va_K D vwCl [(cA, .int)] s) (hP : va_P D vwCl (wC ad cA σ) H) (hdg : decode cc pc = .ok (.arraylength, 1)) (kk : W p l e R s m args below meth c H locs cells slots Q (F0 m (pc + 1) ls (.int 8 :: rest))) : W p l e R s m args below meth c H locs cells slots Q (F0 m pc ls (.ref (ad 19) :: rest)) := va_alen hx hb hK hP 19 0 rfl rfl (v := 8) rfl hdg kk
theorem lc_kwday (hx : p.tables.exec = Jvm.exec) (hb : c.code = cc) (hK : va_K D vwCl [(cA, .int)] s) (hP : va_P D vwCl (wC ad cA σ) H) {i : Int32} (hin : inB i 8) (hdg : decode cc pc = .ok (.iaload, 1)) (kk : W p l e R s m args below meth c H locs cells slots Q (F0 m (pc + 1) ls (.int (c_kwday σ i.toNatClampNeg) :: rest))) : W p l e R s m args below meth c H locs cells slots Q (F0 m pc ls (.int i :: .ref (ad 20) :: rest)) := va_iald hx hb hK hP 20 0 rfl rfl hin hdg kk
theorem wc_kwday (v : Nat → Int32) : (wC ad cA σ).set 20 (ad 20, .inl (cA, 8, .inl v)) = wC ad cA (sc_kwday σ v) := rfl
theorem ac_kwday (hx : p.tables.exec = Jvm.exec) (hb : c.code = cc) (hK : va_K D vwCl [(cA, .int)] s) (hP : va_P D vwCl (wC ad cA σ) H) (hD : va_D A (wC ad cA σ)) (hS : va_S A s.heap H locs) {i x : Int32} (hin : inB i 8) (hdg : decode cc pc = .ok (.iastore, 1)) (kk : ∀ (H1 : Heap) (locs1 : List Loc), va_P D vwCl (wC ad cA (sc_kwday σ (upd (c_kwday σ) i.toNatClampNeg x))) H1 → va_D A (wC ad cA (sc_kwday σ (upd (c_kwday σ) i.toNatClampNeg x))) → va_S A s.heap H1 locs1 → W p l e R s m args below meth c H1 locs1 cells slots Q (F0 m (pc + 1) ls rest)) : W p l e R s m args below meth c H locs cells slots Q (F0 m pc ls (.int x :: .int i :: .ref (ad 20) :: rest)) := va_iast hx hb hK hP hD hS 20 0 rfl rfl hin hdg (fun H1 locs1 h1 h2 h3 => kk H1 locs1 (Eq.mp (congrArg (fun w => va_P D vwCl w H1) (wc_kwday _)) h1) (Eq.mp (congrArg (fun w => va_D A w) (wc_kwday _)) h2) h3)
theorem nc_kwday (hx : p.tables.exec = Jvm.exec) (hb : c.code = cc) (hK : va_K D vwCl [(cA, .int)] s) (hP : va_P D vwCl (wC ad cA σ) H) (hdg : decode cc pc = .ok (.arraylength, 1)) (kk : W p l e R s m args below meth c H locs cells slots Q (F0 m (pc + 1) ls (.int 8 :: rest))) : W p l e R s m args below meth c H locs cells slots Q (F0 m pc ls (.ref (ad 20) :: rest)) := va_alen hx hb hK hP 20 0 rfl rfl (v := 8) rfl hdg kk
theorem gc_21_hill (CF : CallFix p m c cc nL s args (wA y0 cc nL ret0) own) (hK : va_K D vwCl [(cA, .int)] s) (hP : va_P D vwCl (wC ad cA σ) H) (hl : Cond.fieldLink own idx "DugBySaid$Talk" "hill" "LDugBySaid$Hill;" ∈ wsA) (hdg : decode cc pc = .ok (.getfield idx, 3)) (kk : W p l e R s m args below meth c H locs cells slots Q (F0 m (pc + 3) ls (.ref (ad 3) :: rest))) : W p l e R s m args below meth c H locs cells slots Q (F0 m pc ls (.ref (ad 21) :: rest)) := va_get (D := D) (ci := 4) (C := RX4) (T := TX4) (N := 2) CF.1 CF.2.1 CF.2.2.2.2 (fun w h => List.mem_cons_of_mem _ (in_X4 w h)) CF.2.2.2.1 hK hP 21 rfl rfl 0 (by decide) (CF.2.2.2.2 _ (List.mem_cons_of_mem _ hl)) (fun _ h => h) rfl hdg kk
theorem gc_21_past (CF : CallFix p m c cc nL s args (wA y0 cc nL ret0) own) (hK : va_K D vwCl [(cA, .int)] s) (hP : va_P D vwCl (wC ad cA σ) H) (hl : Cond.fieldLink own idx "DugBySaid$Talk" "past" "LDugBySaid$Past;" ∈ wsA) (hdg : decode cc pc = .ok (.getfield idx, 3)) (kk : W p l e R s m args below meth c H locs cells slots Q (F0 m (pc + 3) ls (.ref (ad 5) :: rest))) : W p l e R s m args below meth c H locs cells slots Q (F0 m pc ls (.ref (ad 21) :: rest)) := va_get (D := D) (ci := 4) (C := RX4) (T := TX4) (N := 2) CF.1 CF.2.1 CF.2.2.2.2 (fun w h => List.mem_cons_of_mem _ (in_X4 w h)) CF.2.2.2.1 hK hP 21 rfl rfl 1 (by decide) (CF.2.2.2.2 _ (List.mem_cons_of_mem _ hl)) (fun _ h => h) rfl hdg kk
theorem gc_22_hill (CF : CallFix p m c cc nL s args (wA y0 cc nL ret0) own) (hK : va_K D vwCl [(cA, .int)] s) (hP : va_P D vwCl (wC ad cA σ) H) (hl : Cond.fieldLink own idx "DugBySaid$Riddle" "hill" "LDugBySaid$Hill;" ∈ wsA) (hdg : decode cc pc = .ok (.getfield idx, 3)) (kk : W p l e R s m args below meth c H locs cells slots Q (F0 m (pc + 3) ls (.ref (ad 3) :: rest))) : W p l e R s m args below meth c H locs cells slots Q (F0 m pc ls (.ref (ad 22) :: rest)) := va_get (D := D) (ci := 3) (C := RX3) (T := TX3) (N := 4) CF.1 CF.2.1 CF.2.2.2.2 (fun w h => List.mem_cons_of_mem _ (in_X3 w h)) CF.2.2.2.1 hK hP 22 rfl rfl 0 (by decide) (CF.2.2.2.2 _ (List.mem_cons_of_mem _ hl)) (fun _ h => h) rfl hdg kk
theorem gc_22_past (CF : CallFix p m c cc nL s args (wA y0 cc nL ret0) own) (hK : va_K D vwCl [(cA, .int)] s) (hP : va_P D vwCl (wC ad cA σ) H) (hl : Cond.fieldLink own idx "DugBySaid$Riddle" "past" "LDugBySaid$Past;" ∈ wsA) (hdg : decode cc pc = .ok (.getfield idx, 3)) (kk : W p l e R s m args below meth c H locs cells slots Q (F0 m (pc + 3) ls (.ref (ad 5) :: rest))) : W p l e R s m args below meth c H locs cells slots Q (F0 m pc ls (.ref (ad 22) :: rest)) := va_get (D := D) (ci := 3) (C := RX3) (T := TX3) (N := 4) CF.1 CF.2.1 CF.2.2.2.2 (fun w h => List.mem_cons_of_mem _ (in_X3 w h)) CF.2.2.2.1 hK hP 22 rfl rfl 1 (by decide) (CF.2.2.2.2 _ (List.mem_cons_of_mem _ hl)) (fun _ h => h) rfl hdg kk
theorem gc_22_talk (CF : CallFix p m c cc nL s args (wA y0 cc nL ret0) own) (hK : va_K D vwCl [(cA, .int)] s) (hP : va_P D vwCl (wC ad cA σ) H) (hl : Cond.fieldLink own idx "DugBySaid$Riddle" "talk" "LDugBySaid$Talk;" ∈ wsA) (hdg : decode cc pc = .ok (.getfield idx, 3)) (kk : W p l e R s m args below meth c H locs cells slots Q (F0 m (pc + 3) ls (.ref (ad 21) :: rest))) : W p l e R s m args below meth c H locs cells slots Q (F0 m pc ls (.ref (ad 22) :: rest)) := va_get (D := D) (ci := 3) (C := RX3) (T := TX3) (N := 4) CF.1 CF.2.1 CF.2.2.2.2 (fun w h => List.mem_cons_of_mem _ (in_X3 w h)) CF.2.2.2.1 hK hP 22 rfl rfl 2 (by decide) (CF.2.2.2.2 _ (List.mem_cons_of_mem _ hl)) (fun _ h => h) rfl hdg kk
theorem gc_22_left (CF : CallFix p m c cc nL s args (wA y0 cc nL ret0) own) (hK : va_K D vwCl [(cA, .int)] s) (hP : va_P D vwCl (wC ad cA σ) H) (hl : Cond.fieldLink own idx "DugBySaid$Riddle" "left" "[I" ∈ wsA) (hdg : decode cc pc = .ok (.getfield idx, 3)) (kk : W p l e R s m args below meth c H locs cells slots Q (F0 m (pc + 3) ls (.ref (ad 23) :: rest))) : W p l e R s m args below meth c H locs cells slots Q (F0 m pc ls (.ref (ad 22) :: rest)) := va_get (D := D) (ci := 3) (C := RX3) (T := TX3) (N := 4) CF.1 CF.2.1 CF.2.2.2.2 (fun w h => List.mem_cons_of_mem _ (in_X3 w h)) CF.2.2.2.1 hK hP 22 rfl rfl 3 (by decide) (CF.2.2.2.2 _ (List.mem_cons_of_mem _ hl)) (fun _ h => h) rfl hdg kk
theorem lc_left (hx : p.tables.exec = Jvm.exec) (hb : c.code = cc) (hK : va_K D vwCl [(cA, .int)] s) (hP : va_P D vwCl (wC ad cA σ) H) {i : Int32} (hin : inB i 7) (hdg : decode cc pc = .ok (.iaload, 1)) (kk : W p l e R s m args below meth c H locs cells slots Q (F0 m (pc + 1) ls (.int (c_left σ i.toNatClampNeg) :: rest))) : W p l e R s m args below meth c H locs cells slots Q (F0 m pc ls (.int i :: .ref (ad 23) :: rest)) := va_iald hx hb hK hP 23 0 rfl rfl hin hdg kk
theorem wc_left (v : Nat → Int32) : (wC ad cA σ).set 23 (ad 23, .inl (cA, 7, .inl v)) = wC ad cA (sc_left σ v) := rfl
theorem ac_left (hx : p.tables.exec = Jvm.exec) (hb : c.code = cc) (hK : va_K D vwCl [(cA, .int)] s) (hP : va_P D vwCl (wC ad cA σ) H) (hD : va_D A (wC ad cA σ)) (hS : va_S A s.heap H locs) {i x : Int32} (hin : inB i 7) (hdg : decode cc pc = .ok (.iastore, 1)) (kk : ∀ (H1 : Heap) (locs1 : List Loc), va_P D vwCl (wC ad cA (sc_left σ (upd (c_left σ) i.toNatClampNeg x))) H1 → va_D A (wC ad cA (sc_left σ (upd (c_left σ) i.toNatClampNeg x))) → va_S A s.heap H1 locs1 → W p l e R s m args below meth c H1 locs1 cells slots Q (F0 m (pc + 1) ls rest)) : W p l e R s m args below meth c H locs cells slots Q (F0 m pc ls (.int x :: .int i :: .ref (ad 23) :: rest)) := va_iast hx hb hK hP hD hS 23 0 rfl rfl hin hdg (fun H1 locs1 h1 h2 h3 => kk H1 locs1 (Eq.mp (congrArg (fun w => va_P D vwCl w H1) (wc_left _)) h1) (Eq.mp (congrArg (fun w => va_D A w) (wc_left _)) h2) h3)
theorem nc_left (hx : p.tables.exec = Jvm.exec) (hb : c.code = cc) (hK : va_K D vwCl [(cA, .int)] s) (hP : va_P D vwCl (wC ad cA σ) H) (hdg : decode cc pc = .ok (.arraylength, 1)) (kk : W p l e R s m args below meth c H locs cells slots Q (F0 m (pc + 1) ls (.int 7 :: rest))) : W p l e R s m args below meth c H locs cells slots Q (F0 m pc ls (.ref (ad 23) :: rest)) := va_alen hx hb hK hP 23 0 rfl rfl (v := 7) rfl hdg kk
end ACCc
end
section
section ACCc
variable {p : Program} {l : Launch} {e : Env} {R : Room} {s : State} {m : MethodId} {args : Array Value} {below : List Frame} {meth : Method} {c : Code} {H : Heap} {locs : List Loc} {cells slots : Nat} {Q : State → Prop}
variable {cc : ByteArray} {pc : Nat} {ls : Array Slot} {rest : List Value} {D : va_G} {A : Nat → Prop} {y0 : MethodName} {nL idx : Nat} {ret0 : Option FieldType} {own : String} {ad : Nat → Nat} {cA : ClassId}
variable {σ : SC}
theorem yc_knexts_nexts (CF : CallFix p m c cc nL s args (wA y0 cc nL ret0) own) (hsz : ls.size = nL) (hK : va_K D vwCl [(cA, .int)] s) (hP : va_P D vwCl (wC ad cA σ) H) (hD : va_D A (wC ad cA σ)) (hS : va_S A s.heap H locs) (hl : Cond.methodLink own idx arraycopyName ∈ wsA) (hf : 1 ≤ R.frames) (hlo : (rest.map fun v => v.category).sum + 18 ≤ R.locals) (hdg : decode cc pc = .ok (.invokestatic idx, 3)) (kk : ∀ (H1 : Heap) (locs1 : List Loc), va_P D vwCl (wC ad cA (sc_knexts σ (va_cpy (c_nexts σ) (c_knexts σ) (0 : Int32).toNatClampNeg (0 : Int32).toNatClampNeg (6 : Int32).toNatClampNeg))) H1 → va_D A (wC ad cA (sc_knexts σ (va_cpy (c_nexts σ) (c_knexts σ) (0 : Int32).toNatClampNeg (0 : Int32).toNatClampNeg (6 : Int32).toNatClampNeg))) → va_S A s.heap H1 locs1 → W p l e R s m args below meth c H1 locs1 cells slots Q (F0 m (pc + 3) ls rest)) : W p l e R s m args below meth c H locs cells slots Q (F0 m pc ls (.int 6 :: .int 0 :: .ref (ad 14) :: .int 0 :: .ref (ad 6) :: rest)) := va_copyi (ty := .int) CF.1 CF.2.1 (CF.2.2.1.trans hsz.symm) CF.2.2.2.1 (CF.2.2.2.2 _ (List.mem_cons_of_mem _ hl)) (CF.2.2.2.2 _ (List.mem_cons_of_mem _ mV_arraycopy)) (CF.2.2.2.2 _ (List.mem_cons_of_mem _ mT_arraycopy)) (CF.2.2.2.2 _ (List.mem_cons_of_mem _ mN_J10)) hK hP hD hS 6 14 0 0 rfl rfl rfl rfl rfl (by decide) (by decide) (by decide) (by decide) (by decide) (fun _ _ => rfl) hf hlo hdg (fun H1 locs1 h1 h2 h3 => kk H1 locs1 (Eq.mp (congrArg (fun w => va_P D vwCl w H1) (wc_knexts (va_cpy (c_nexts σ) (c_knexts σ) (0 : Int32).toNatClampNeg (0 : Int32).toNatClampNeg (6 : Int32).toNatClampNeg))) h1) (Eq.mp (congrArg (fun w => va_D A w) (wc_knexts (va_cpy (c_nexts σ) (c_knexts σ) (0 : Int32).toNatClampNeg (0 : Int32).toNatClampNeg (6 : Int32).toNatClampNeg))) h2) h3)
theorem yc_klsts_lsts (CF : CallFix p m c cc nL s args (wA y0 cc nL ret0) own) (hsz : ls.size = nL) (hK : va_K D vwCl [(cA, .int)] s) (hP : va_P D vwCl (wC ad cA σ) H) (hD : va_D A (wC ad cA σ)) (hS : va_S A s.heap H locs) (hl : Cond.methodLink own idx arraycopyName ∈ wsA) (hf : 1 ≤ R.frames) (hlo : (rest.map fun v => v.category).sum + 18 ≤ R.locals) (hdg : decode cc pc = .ok (.invokestatic idx, 3)) (kk : ∀ (H1 : Heap) (locs1 : List Loc), va_P D vwCl (wC ad cA (sc_klsts σ (va_cpy (c_lsts σ) (c_klsts σ) (0 : Int32).toNatClampNeg (0 : Int32).toNatClampNeg (6 : Int32).toNatClampNeg))) H1 → va_D A (wC ad cA (sc_klsts σ (va_cpy (c_lsts σ) (c_klsts σ) (0 : Int32).toNatClampNeg (0 : Int32).toNatClampNeg (6 : Int32).toNatClampNeg))) → va_S A s.heap H1 locs1 → W p l e R s m args below meth c H1 locs1 cells slots Q (F0 m (pc + 3) ls rest)) : W p l e R s m args below meth c H locs cells slots Q (F0 m pc ls (.int 6 :: .int 0 :: .ref (ad 15) :: .int 0 :: .ref (ad 7) :: rest)) := va_copyi (ty := .int) CF.1 CF.2.1 (CF.2.2.1.trans hsz.symm) CF.2.2.2.1 (CF.2.2.2.2 _ (List.mem_cons_of_mem _ hl)) (CF.2.2.2.2 _ (List.mem_cons_of_mem _ mV_arraycopy)) (CF.2.2.2.2 _ (List.mem_cons_of_mem _ mT_arraycopy)) (CF.2.2.2.2 _ (List.mem_cons_of_mem _ mN_J10)) hK hP hD hS 7 15 0 0 rfl rfl rfl rfl rfl (by decide) (by decide) (by decide) (by decide) (by decide) (fun _ _ => rfl) hf hlo hdg (fun H1 locs1 h1 h2 h3 => kk H1 locs1 (Eq.mp (congrArg (fun w => va_P D vwCl w H1) (wc_klsts (va_cpy (c_lsts σ) (c_klsts σ) (0 : Int32).toNatClampNeg (0 : Int32).toNatClampNeg (6 : Int32).toNatClampNeg))) h1) (Eq.mp (congrArg (fun w => va_D A w) (wc_klsts (va_cpy (c_lsts σ) (c_klsts σ) (0 : Int32).toNatClampNeg (0 : Int32).toNatClampNeg (6 : Int32).toNatClampNeg))) h2) h3)
theorem yc_kheard_heard (CF : CallFix p m c cc nL s args (wA y0 cc nL ret0) own) (hsz : ls.size = nL) (hK : va_K D vwCl [(cA, .int)] s) (hP : va_P D vwCl (wC ad cA σ) H) (hD : va_D A (wC ad cA σ)) (hS : va_S A s.heap H locs) (hl : Cond.methodLink own idx arraycopyName ∈ wsA) (hf : 1 ≤ R.frames) (hlo : (rest.map fun v => v.category).sum + 18 ≤ R.locals) (hdg : decode cc pc = .ok (.invokestatic idx, 3)) (kk : ∀ (H1 : Heap) (locs1 : List Loc), va_P D vwCl (wC ad cA (sc_kheard σ (va_cpy (c_heard σ) (c_kheard σ) (0 : Int32).toNatClampNeg (0 : Int32).toNatClampNeg (3 : Int32).toNatClampNeg))) H1 → va_D A (wC ad cA (sc_kheard σ (va_cpy (c_heard σ) (c_kheard σ) (0 : Int32).toNatClampNeg (0 : Int32).toNatClampNeg (3 : Int32).toNatClampNeg))) → va_S A s.heap H1 locs1 → W p l e R s m args below meth c H1 locs1 cells slots Q (F0 m (pc + 3) ls rest)) : W p l e R s m args below meth c H locs cells slots Q (F0 m pc ls (.int 3 :: .int 0 :: .ref (ad 16) :: .int 0 :: .ref (ad 8) :: rest)) := va_copyi (ty := .int) CF.1 CF.2.1 (CF.2.2.1.trans hsz.symm) CF.2.2.2.1 (CF.2.2.2.2 _ (List.mem_cons_of_mem _ hl)) (CF.2.2.2.2 _ (List.mem_cons_of_mem _ mV_arraycopy)) (CF.2.2.2.2 _ (List.mem_cons_of_mem _ mT_arraycopy)) (CF.2.2.2.2 _ (List.mem_cons_of_mem _ mN_J10)) hK hP hD hS 8 16 0 0 rfl rfl rfl rfl rfl (by decide) (by decide) (by decide) (by decide) (by decide) (fun _ _ => rfl) hf hlo hdg (fun H1 locs1 h1 h2 h3 => kk H1 locs1 (Eq.mp (congrArg (fun w => va_P D vwCl w H1) (wc_kheard (va_cpy (c_heard σ) (c_kheard σ) (0 : Int32).toNatClampNeg (0 : Int32).toNatClampNeg (3 : Int32).toNatClampNeg))) h1) (Eq.mp (congrArg (fun w => va_D A w) (wc_kheard (va_cpy (c_heard σ) (c_kheard σ) (0 : Int32).toNatClampNeg (0 : Int32).toNatClampNeg (3 : Int32).toNatClampNeg))) h2) h3)
theorem yc_klast_last (CF : CallFix p m c cc nL s args (wA y0 cc nL ret0) own) (hsz : ls.size = nL) (hK : va_K D vwCl [(cA, .int)] s) (hP : va_P D vwCl (wC ad cA σ) H) (hD : va_D A (wC ad cA σ)) (hS : va_S A s.heap H locs) (hl : Cond.methodLink own idx arraycopyName ∈ wsA) (hf : 1 ≤ R.frames) (hlo : (rest.map fun v => v.category).sum + 18 ≤ R.locals) (hdg : decode cc pc = .ok (.invokestatic idx, 3)) (kk : ∀ (H1 : Heap) (locs1 : List Loc), va_P D vwCl (wC ad cA (sc_klast σ (va_cpy (c_last σ) (c_klast σ) (0 : Int32).toNatClampNeg (0 : Int32).toNatClampNeg (3 : Int32).toNatClampNeg))) H1 → va_D A (wC ad cA (sc_klast σ (va_cpy (c_last σ) (c_klast σ) (0 : Int32).toNatClampNeg (0 : Int32).toNatClampNeg (3 : Int32).toNatClampNeg))) → va_S A s.heap H1 locs1 → W p l e R s m args below meth c H1 locs1 cells slots Q (F0 m (pc + 3) ls rest)) : W p l e R s m args below meth c H locs cells slots Q (F0 m pc ls (.int 3 :: .int 0 :: .ref (ad 17) :: .int 0 :: .ref (ad 9) :: rest)) := va_copyi (ty := .int) CF.1 CF.2.1 (CF.2.2.1.trans hsz.symm) CF.2.2.2.1 (CF.2.2.2.2 _ (List.mem_cons_of_mem _ hl)) (CF.2.2.2.2 _ (List.mem_cons_of_mem _ mV_arraycopy)) (CF.2.2.2.2 _ (List.mem_cons_of_mem _ mT_arraycopy)) (CF.2.2.2.2 _ (List.mem_cons_of_mem _ mN_J10)) hK hP hD hS 9 17 0 0 rfl rfl rfl rfl rfl (by decide) (by decide) (by decide) (by decide) (by decide) (fun _ _ => rfl) hf hlo hdg (fun H1 locs1 h1 h2 h3 => kk H1 locs1 (Eq.mp (congrArg (fun w => va_P D vwCl w H1) (wc_klast (va_cpy (c_last σ) (c_klast σ) (0 : Int32).toNatClampNeg (0 : Int32).toNatClampNeg (3 : Int32).toNatClampNeg))) h1) (Eq.mp (congrArg (fun w => va_D A w) (wc_klast (va_cpy (c_last σ) (c_klast σ) (0 : Int32).toNatClampNeg (0 : Int32).toNatClampNeg (3 : Int32).toNatClampNeg))) h2) h3)
theorem yc_kdenied_denied (CF : CallFix p m c cc nL s args (wA y0 cc nL ret0) own) (hsz : ls.size = nL) (hK : va_K D vwCl [(cA, .int)] s) (hP : va_P D vwCl (wC ad cA σ) H) (hD : va_D A (wC ad cA σ)) (hS : va_S A s.heap H locs) (hl : Cond.methodLink own idx arraycopyName ∈ wsA) (hf : 1 ≤ R.frames) (hlo : (rest.map fun v => v.category).sum + 18 ≤ R.locals) (hdg : decode cc pc = .ok (.invokestatic idx, 3)) (kk : ∀ (H1 : Heap) (locs1 : List Loc), va_P D vwCl (wC ad cA (sc_kdenied σ (va_cpy (c_denied σ) (c_kdenied σ) (0 : Int32).toNatClampNeg (0 : Int32).toNatClampNeg (3 : Int32).toNatClampNeg))) H1 → va_D A (wC ad cA (sc_kdenied σ (va_cpy (c_denied σ) (c_kdenied σ) (0 : Int32).toNatClampNeg (0 : Int32).toNatClampNeg (3 : Int32).toNatClampNeg))) → va_S A s.heap H1 locs1 → W p l e R s m args below meth c H1 locs1 cells slots Q (F0 m (pc + 3) ls rest)) : W p l e R s m args below meth c H locs cells slots Q (F0 m pc ls (.int 3 :: .int 0 :: .ref (ad 18) :: .int 0 :: .ref (ad 10) :: rest)) := va_copyi (ty := .int) CF.1 CF.2.1 (CF.2.2.1.trans hsz.symm) CF.2.2.2.1 (CF.2.2.2.2 _ (List.mem_cons_of_mem _ hl)) (CF.2.2.2.2 _ (List.mem_cons_of_mem _ mV_arraycopy)) (CF.2.2.2.2 _ (List.mem_cons_of_mem _ mT_arraycopy)) (CF.2.2.2.2 _ (List.mem_cons_of_mem _ mN_J10)) hK hP hD hS 10 18 0 0 rfl rfl rfl rfl rfl (by decide) (by decide) (by decide) (by decide) (by decide) (fun _ _ => rfl) hf hlo hdg (fun H1 locs1 h1 h2 h3 => kk H1 locs1 (Eq.mp (congrArg (fun w => va_P D vwCl w H1) (wc_kdenied (va_cpy (c_denied σ) (c_kdenied σ) (0 : Int32).toNatClampNeg (0 : Int32).toNatClampNeg (3 : Int32).toNatClampNeg))) h1) (Eq.mp (congrArg (fun w => va_D A w) (wc_kdenied (va_cpy (c_denied σ) (c_kdenied σ) (0 : Int32).toNatClampNeg (0 : Int32).toNatClampNeg (3 : Int32).toNatClampNeg))) h2) h3)
theorem yc_kwhom_whom (CF : CallFix p m c cc nL s args (wA y0 cc nL ret0) own) (hsz : ls.size = nL) (hK : va_K D vwCl [(cA, .int)] s) (hP : va_P D vwCl (wC ad cA σ) H) (hD : va_D A (wC ad cA σ)) (hS : va_S A s.heap H locs) (hl : Cond.methodLink own idx arraycopyName ∈ wsA) (hf : 1 ≤ R.frames) (hlo : (rest.map fun v => v.category).sum + 18 ≤ R.locals) (hdg : decode cc pc = .ok (.invokestatic idx, 3)) (kk : ∀ (H1 : Heap) (locs1 : List Loc), va_P D vwCl (wC ad cA (sc_kwhom σ (va_cpy (c_whom σ) (c_kwhom σ) (0 : Int32).toNatClampNeg (0 : Int32).toNatClampNeg (8 : Int32).toNatClampNeg))) H1 → va_D A (wC ad cA (sc_kwhom σ (va_cpy (c_whom σ) (c_kwhom σ) (0 : Int32).toNatClampNeg (0 : Int32).toNatClampNeg (8 : Int32).toNatClampNeg))) → va_S A s.heap H1 locs1 → W p l e R s m args below meth c H1 locs1 cells slots Q (F0 m (pc + 3) ls rest)) : W p l e R s m args below meth c H locs cells slots Q (F0 m pc ls (.int 8 :: .int 0 :: .ref (ad 19) :: .int 0 :: .ref (ad 11) :: rest)) := va_copyi (ty := .int) CF.1 CF.2.1 (CF.2.2.1.trans hsz.symm) CF.2.2.2.1 (CF.2.2.2.2 _ (List.mem_cons_of_mem _ hl)) (CF.2.2.2.2 _ (List.mem_cons_of_mem _ mV_arraycopy)) (CF.2.2.2.2 _ (List.mem_cons_of_mem _ mT_arraycopy)) (CF.2.2.2.2 _ (List.mem_cons_of_mem _ mN_J10)) hK hP hD hS 11 19 0 0 rfl rfl rfl rfl rfl (by decide) (by decide) (by decide) (by decide) (by decide) (fun _ _ => rfl) hf hlo hdg (fun H1 locs1 h1 h2 h3 => kk H1 locs1 (Eq.mp (congrArg (fun w => va_P D vwCl w H1) (wc_kwhom (va_cpy (c_whom σ) (c_kwhom σ) (0 : Int32).toNatClampNeg (0 : Int32).toNatClampNeg (8 : Int32).toNatClampNeg))) h1) (Eq.mp (congrArg (fun w => va_D A w) (wc_kwhom (va_cpy (c_whom σ) (c_kwhom σ) (0 : Int32).toNatClampNeg (0 : Int32).toNatClampNeg (8 : Int32).toNatClampNeg))) h2) h3)
theorem yc_kwday_wday (CF : CallFix p m c cc nL s args (wA y0 cc nL ret0) own) (hsz : ls.size = nL) (hK : va_K D vwCl [(cA, .int)] s) (hP : va_P D vwCl (wC ad cA σ) H) (hD : va_D A (wC ad cA σ)) (hS : va_S A s.heap H locs) (hl : Cond.methodLink own idx arraycopyName ∈ wsA) (hf : 1 ≤ R.frames) (hlo : (rest.map fun v => v.category).sum + 18 ≤ R.locals) (hdg : decode cc pc = .ok (.invokestatic idx, 3)) (kk : ∀ (H1 : Heap) (locs1 : List Loc), va_P D vwCl (wC ad cA (sc_kwday σ (va_cpy (c_wday σ) (c_kwday σ) (0 : Int32).toNatClampNeg (0 : Int32).toNatClampNeg (8 : Int32).toNatClampNeg))) H1 → va_D A (wC ad cA (sc_kwday σ (va_cpy (c_wday σ) (c_kwday σ) (0 : Int32).toNatClampNeg (0 : Int32).toNatClampNeg (8 : Int32).toNatClampNeg))) → va_S A s.heap H1 locs1 → W p l e R s m args below meth c H1 locs1 cells slots Q (F0 m (pc + 3) ls rest)) : W p l e R s m args below meth c H locs cells slots Q (F0 m pc ls (.int 8 :: .int 0 :: .ref (ad 20) :: .int 0 :: .ref (ad 12) :: rest)) := va_copyi (ty := .int) CF.1 CF.2.1 (CF.2.2.1.trans hsz.symm) CF.2.2.2.1 (CF.2.2.2.2 _ (List.mem_cons_of_mem _ hl)) (CF.2.2.2.2 _ (List.mem_cons_of_mem _ mV_arraycopy)) (CF.2.2.2.2 _ (List.mem_cons_of_mem _ mT_arraycopy)) (CF.2.2.2.2 _ (List.mem_cons_of_mem _ mN_J10)) hK hP hD hS 12 20 0 0 rfl rfl rfl rfl rfl (by decide) (by decide) (by decide) (by decide) (by decide) (fun _ _ => rfl) hf hlo hdg (fun H1 locs1 h1 h2 h3 => kk H1 locs1 (Eq.mp (congrArg (fun w => va_P D vwCl w H1) (wc_kwday (va_cpy (c_wday σ) (c_kwday σ) (0 : Int32).toNatClampNeg (0 : Int32).toNatClampNeg (8 : Int32).toNatClampNeg))) h1) (Eq.mp (congrArg (fun w => va_D A w) (wc_kwday (va_cpy (c_wday σ) (c_kwday σ) (0 : Int32).toNatClampNeg (0 : Int32).toNatClampNeg (8 : Int32).toNatClampNeg))) h2) h3)
theorem yc_nexts_knexts (CF : CallFix p m c cc nL s args (wA y0 cc nL ret0) own) (hsz : ls.size = nL) (hK : va_K D vwCl [(cA, .int)] s) (hP : va_P D vwCl (wC ad cA σ) H) (hD : va_D A (wC ad cA σ)) (hS : va_S A s.heap H locs) (hl : Cond.methodLink own idx arraycopyName ∈ wsA) (hf : 1 ≤ R.frames) (hlo : (rest.map fun v => v.category).sum + 18 ≤ R.locals) (hdg : decode cc pc = .ok (.invokestatic idx, 3)) (kk : ∀ (H1 : Heap) (locs1 : List Loc), va_P D vwCl (wC ad cA (sc_nexts σ (va_cpy (c_knexts σ) (c_nexts σ) (0 : Int32).toNatClampNeg (0 : Int32).toNatClampNeg (6 : Int32).toNatClampNeg))) H1 → va_D A (wC ad cA (sc_nexts σ (va_cpy (c_knexts σ) (c_nexts σ) (0 : Int32).toNatClampNeg (0 : Int32).toNatClampNeg (6 : Int32).toNatClampNeg))) → va_S A s.heap H1 locs1 → W p l e R s m args below meth c H1 locs1 cells slots Q (F0 m (pc + 3) ls rest)) : W p l e R s m args below meth c H locs cells slots Q (F0 m pc ls (.int 6 :: .int 0 :: .ref (ad 6) :: .int 0 :: .ref (ad 14) :: rest)) := va_copyi (ty := .int) CF.1 CF.2.1 (CF.2.2.1.trans hsz.symm) CF.2.2.2.1 (CF.2.2.2.2 _ (List.mem_cons_of_mem _ hl)) (CF.2.2.2.2 _ (List.mem_cons_of_mem _ mV_arraycopy)) (CF.2.2.2.2 _ (List.mem_cons_of_mem _ mT_arraycopy)) (CF.2.2.2.2 _ (List.mem_cons_of_mem _ mN_J10)) hK hP hD hS 14 6 0 0 rfl rfl rfl rfl rfl (by decide) (by decide) (by decide) (by decide) (by decide) (fun _ _ => rfl) hf hlo hdg (fun H1 locs1 h1 h2 h3 => kk H1 locs1 (Eq.mp (congrArg (fun w => va_P D vwCl w H1) (wc_nexts (va_cpy (c_knexts σ) (c_nexts σ) (0 : Int32).toNatClampNeg (0 : Int32).toNatClampNeg (6 : Int32).toNatClampNeg))) h1) (Eq.mp (congrArg (fun w => va_D A w) (wc_nexts (va_cpy (c_knexts σ) (c_nexts σ) (0 : Int32).toNatClampNeg (0 : Int32).toNatClampNeg (6 : Int32).toNatClampNeg))) h2) h3)
theorem yc_lsts_klsts (CF : CallFix p m c cc nL s args (wA y0 cc nL ret0) own) (hsz : ls.size = nL) (hK : va_K D vwCl [(cA, .int)] s) (hP : va_P D vwCl (wC ad cA σ) H) (hD : va_D A (wC ad cA σ)) (hS : va_S A s.heap H locs) (hl : Cond.methodLink own idx arraycopyName ∈ wsA) (hf : 1 ≤ R.frames) (hlo : (rest.map fun v => v.category).sum + 18 ≤ R.locals) (hdg : decode cc pc = .ok (.invokestatic idx, 3)) (kk : ∀ (H1 : Heap) (locs1 : List Loc), va_P D vwCl (wC ad cA (sc_lsts σ (va_cpy (c_klsts σ) (c_lsts σ) (0 : Int32).toNatClampNeg (0 : Int32).toNatClampNeg (6 : Int32).toNatClampNeg))) H1 → va_D A (wC ad cA (sc_lsts σ (va_cpy (c_klsts σ) (c_lsts σ) (0 : Int32).toNatClampNeg (0 : Int32).toNatClampNeg (6 : Int32).toNatClampNeg))) → va_S A s.heap H1 locs1 → W p l e R s m args below meth c H1 locs1 cells slots Q (F0 m (pc + 3) ls rest)) : W p l e R s m args below meth c H locs cells slots Q (F0 m pc ls (.int 6 :: .int 0 :: .ref (ad 7) :: .int 0 :: .ref (ad 15) :: rest)) := va_copyi (ty := .int) CF.1 CF.2.1 (CF.2.2.1.trans hsz.symm) CF.2.2.2.1 (CF.2.2.2.2 _ (List.mem_cons_of_mem _ hl)) (CF.2.2.2.2 _ (List.mem_cons_of_mem _ mV_arraycopy)) (CF.2.2.2.2 _ (List.mem_cons_of_mem _ mT_arraycopy)) (CF.2.2.2.2 _ (List.mem_cons_of_mem _ mN_J10)) hK hP hD hS 15 7 0 0 rfl rfl rfl rfl rfl (by decide) (by decide) (by decide) (by decide) (by decide) (fun _ _ => rfl) hf hlo hdg (fun H1 locs1 h1 h2 h3 => kk H1 locs1 (Eq.mp (congrArg (fun w => va_P D vwCl w H1) (wc_lsts (va_cpy (c_klsts σ) (c_lsts σ) (0 : Int32).toNatClampNeg (0 : Int32).toNatClampNeg (6 : Int32).toNatClampNeg))) h1) (Eq.mp (congrArg (fun w => va_D A w) (wc_lsts (va_cpy (c_klsts σ) (c_lsts σ) (0 : Int32).toNatClampNeg (0 : Int32).toNatClampNeg (6 : Int32).toNatClampNeg))) h2) h3)
theorem yc_heard_kheard (CF : CallFix p m c cc nL s args (wA y0 cc nL ret0) own) (hsz : ls.size = nL) (hK : va_K D vwCl [(cA, .int)] s) (hP : va_P D vwCl (wC ad cA σ) H) (hD : va_D A (wC ad cA σ)) (hS : va_S A s.heap H locs) (hl : Cond.methodLink own idx arraycopyName ∈ wsA) (hf : 1 ≤ R.frames) (hlo : (rest.map fun v => v.category).sum + 18 ≤ R.locals) (hdg : decode cc pc = .ok (.invokestatic idx, 3)) (kk : ∀ (H1 : Heap) (locs1 : List Loc), va_P D vwCl (wC ad cA (sc_heard σ (va_cpy (c_kheard σ) (c_heard σ) (0 : Int32).toNatClampNeg (0 : Int32).toNatClampNeg (3 : Int32).toNatClampNeg))) H1 → va_D A (wC ad cA (sc_heard σ (va_cpy (c_kheard σ) (c_heard σ) (0 : Int32).toNatClampNeg (0 : Int32).toNatClampNeg (3 : Int32).toNatClampNeg))) → va_S A s.heap H1 locs1 → W p l e R s m args below meth c H1 locs1 cells slots Q (F0 m (pc + 3) ls rest)) : W p l e R s m args below meth c H locs cells slots Q (F0 m pc ls (.int 3 :: .int 0 :: .ref (ad 8) :: .int 0 :: .ref (ad 16) :: rest)) := va_copyi (ty := .int) CF.1 CF.2.1 (CF.2.2.1.trans hsz.symm) CF.2.2.2.1 (CF.2.2.2.2 _ (List.mem_cons_of_mem _ hl)) (CF.2.2.2.2 _ (List.mem_cons_of_mem _ mV_arraycopy)) (CF.2.2.2.2 _ (List.mem_cons_of_mem _ mT_arraycopy)) (CF.2.2.2.2 _ (List.mem_cons_of_mem _ mN_J10)) hK hP hD hS 16 8 0 0 rfl rfl rfl rfl rfl (by decide) (by decide) (by decide) (by decide) (by decide) (fun _ _ => rfl) hf hlo hdg (fun H1 locs1 h1 h2 h3 => kk H1 locs1 (Eq.mp (congrArg (fun w => va_P D vwCl w H1) (wc_heard (va_cpy (c_kheard σ) (c_heard σ) (0 : Int32).toNatClampNeg (0 : Int32).toNatClampNeg (3 : Int32).toNatClampNeg))) h1) (Eq.mp (congrArg (fun w => va_D A w) (wc_heard (va_cpy (c_kheard σ) (c_heard σ) (0 : Int32).toNatClampNeg (0 : Int32).toNatClampNeg (3 : Int32).toNatClampNeg))) h2) h3)
theorem yc_last_klast (CF : CallFix p m c cc nL s args (wA y0 cc nL ret0) own) (hsz : ls.size = nL) (hK : va_K D vwCl [(cA, .int)] s) (hP : va_P D vwCl (wC ad cA σ) H) (hD : va_D A (wC ad cA σ)) (hS : va_S A s.heap H locs) (hl : Cond.methodLink own idx arraycopyName ∈ wsA) (hf : 1 ≤ R.frames) (hlo : (rest.map fun v => v.category).sum + 18 ≤ R.locals) (hdg : decode cc pc = .ok (.invokestatic idx, 3)) (kk : ∀ (H1 : Heap) (locs1 : List Loc), va_P D vwCl (wC ad cA (sc_last σ (va_cpy (c_klast σ) (c_last σ) (0 : Int32).toNatClampNeg (0 : Int32).toNatClampNeg (3 : Int32).toNatClampNeg))) H1 → va_D A (wC ad cA (sc_last σ (va_cpy (c_klast σ) (c_last σ) (0 : Int32).toNatClampNeg (0 : Int32).toNatClampNeg (3 : Int32).toNatClampNeg))) → va_S A s.heap H1 locs1 → W p l e R s m args below meth c H1 locs1 cells slots Q (F0 m (pc + 3) ls rest)) : W p l e R s m args below meth c H locs cells slots Q (F0 m pc ls (.int 3 :: .int 0 :: .ref (ad 9) :: .int 0 :: .ref (ad 17) :: rest)) := va_copyi (ty := .int) CF.1 CF.2.1 (CF.2.2.1.trans hsz.symm) CF.2.2.2.1 (CF.2.2.2.2 _ (List.mem_cons_of_mem _ hl)) (CF.2.2.2.2 _ (List.mem_cons_of_mem _ mV_arraycopy)) (CF.2.2.2.2 _ (List.mem_cons_of_mem _ mT_arraycopy)) (CF.2.2.2.2 _ (List.mem_cons_of_mem _ mN_J10)) hK hP hD hS 17 9 0 0 rfl rfl rfl rfl rfl (by decide) (by decide) (by decide) (by decide) (by decide) (fun _ _ => rfl) hf hlo hdg (fun H1 locs1 h1 h2 h3 => kk H1 locs1 (Eq.mp (congrArg (fun w => va_P D vwCl w H1) (wc_last (va_cpy (c_klast σ) (c_last σ) (0 : Int32).toNatClampNeg (0 : Int32).toNatClampNeg (3 : Int32).toNatClampNeg))) h1) (Eq.mp (congrArg (fun w => va_D A w) (wc_last (va_cpy (c_klast σ) (c_last σ) (0 : Int32).toNatClampNeg (0 : Int32).toNatClampNeg (3 : Int32).toNatClampNeg))) h2) h3)
theorem yc_denied_kdenied (CF : CallFix p m c cc nL s args (wA y0 cc nL ret0) own) (hsz : ls.size = nL) (hK : va_K D vwCl [(cA, .int)] s) (hP : va_P D vwCl (wC ad cA σ) H) (hD : va_D A (wC ad cA σ)) (hS : va_S A s.heap H locs) (hl : Cond.methodLink own idx arraycopyName ∈ wsA) (hf : 1 ≤ R.frames) (hlo : (rest.map fun v => v.category).sum + 18 ≤ R.locals) (hdg : decode cc pc = .ok (.invokestatic idx, 3)) (kk : ∀ (H1 : Heap) (locs1 : List Loc), va_P D vwCl (wC ad cA (sc_denied σ (va_cpy (c_kdenied σ) (c_denied σ) (0 : Int32).toNatClampNeg (0 : Int32).toNatClampNeg (3 : Int32).toNatClampNeg))) H1 → va_D A (wC ad cA (sc_denied σ (va_cpy (c_kdenied σ) (c_denied σ) (0 : Int32).toNatClampNeg (0 : Int32).toNatClampNeg (3 : Int32).toNatClampNeg))) → va_S A s.heap H1 locs1 → W p l e R s m args below meth c H1 locs1 cells slots Q (F0 m (pc + 3) ls rest)) : W p l e R s m args below meth c H locs cells slots Q (F0 m pc ls (.int 3 :: .int 0 :: .ref (ad 10) :: .int 0 :: .ref (ad 18) :: rest)) := va_copyi (ty := .int) CF.1 CF.2.1 (CF.2.2.1.trans hsz.symm) CF.2.2.2.1 (CF.2.2.2.2 _ (List.mem_cons_of_mem _ hl)) (CF.2.2.2.2 _ (List.mem_cons_of_mem _ mV_arraycopy)) (CF.2.2.2.2 _ (List.mem_cons_of_mem _ mT_arraycopy)) (CF.2.2.2.2 _ (List.mem_cons_of_mem _ mN_J10)) hK hP hD hS 18 10 0 0 rfl rfl rfl rfl rfl (by decide) (by decide) (by decide) (by decide) (by decide) (fun _ _ => rfl) hf hlo hdg (fun H1 locs1 h1 h2 h3 => kk H1 locs1 (Eq.mp (congrArg (fun w => va_P D vwCl w H1) (wc_denied (va_cpy (c_kdenied σ) (c_denied σ) (0 : Int32).toNatClampNeg (0 : Int32).toNatClampNeg (3 : Int32).toNatClampNeg))) h1) (Eq.mp (congrArg (fun w => va_D A w) (wc_denied (va_cpy (c_kdenied σ) (c_denied σ) (0 : Int32).toNatClampNeg (0 : Int32).toNatClampNeg (3 : Int32).toNatClampNeg))) h2) h3)
theorem yc_whom_kwhom (CF : CallFix p m c cc nL s args (wA y0 cc nL ret0) own) (hsz : ls.size = nL) (hK : va_K D vwCl [(cA, .int)] s) (hP : va_P D vwCl (wC ad cA σ) H) (hD : va_D A (wC ad cA σ)) (hS : va_S A s.heap H locs) (hl : Cond.methodLink own idx arraycopyName ∈ wsA) (hf : 1 ≤ R.frames) (hlo : (rest.map fun v => v.category).sum + 18 ≤ R.locals) (hdg : decode cc pc = .ok (.invokestatic idx, 3)) (kk : ∀ (H1 : Heap) (locs1 : List Loc), va_P D vwCl (wC ad cA (sc_whom σ (va_cpy (c_kwhom σ) (c_whom σ) (0 : Int32).toNatClampNeg (0 : Int32).toNatClampNeg (8 : Int32).toNatClampNeg))) H1 → va_D A (wC ad cA (sc_whom σ (va_cpy (c_kwhom σ) (c_whom σ) (0 : Int32).toNatClampNeg (0 : Int32).toNatClampNeg (8 : Int32).toNatClampNeg))) → va_S A s.heap H1 locs1 → W p l e R s m args below meth c H1 locs1 cells slots Q (F0 m (pc + 3) ls rest)) : W p l e R s m args below meth c H locs cells slots Q (F0 m pc ls (.int 8 :: .int 0 :: .ref (ad 11) :: .int 0 :: .ref (ad 19) :: rest)) := va_copyi (ty := .int) CF.1 CF.2.1 (CF.2.2.1.trans hsz.symm) CF.2.2.2.1 (CF.2.2.2.2 _ (List.mem_cons_of_mem _ hl)) (CF.2.2.2.2 _ (List.mem_cons_of_mem _ mV_arraycopy)) (CF.2.2.2.2 _ (List.mem_cons_of_mem _ mT_arraycopy)) (CF.2.2.2.2 _ (List.mem_cons_of_mem _ mN_J10)) hK hP hD hS 19 11 0 0 rfl rfl rfl rfl rfl (by decide) (by decide) (by decide) (by decide) (by decide) (fun _ _ => rfl) hf hlo hdg (fun H1 locs1 h1 h2 h3 => kk H1 locs1 (Eq.mp (congrArg (fun w => va_P D vwCl w H1) (wc_whom (va_cpy (c_kwhom σ) (c_whom σ) (0 : Int32).toNatClampNeg (0 : Int32).toNatClampNeg (8 : Int32).toNatClampNeg))) h1) (Eq.mp (congrArg (fun w => va_D A w) (wc_whom (va_cpy (c_kwhom σ) (c_whom σ) (0 : Int32).toNatClampNeg (0 : Int32).toNatClampNeg (8 : Int32).toNatClampNeg))) h2) h3)
theorem yc_wday_kwday (CF : CallFix p m c cc nL s args (wA y0 cc nL ret0) own) (hsz : ls.size = nL) (hK : va_K D vwCl [(cA, .int)] s) (hP : va_P D vwCl (wC ad cA σ) H) (hD : va_D A (wC ad cA σ)) (hS : va_S A s.heap H locs) (hl : Cond.methodLink own idx arraycopyName ∈ wsA) (hf : 1 ≤ R.frames) (hlo : (rest.map fun v => v.category).sum + 18 ≤ R.locals) (hdg : decode cc pc = .ok (.invokestatic idx, 3)) (kk : ∀ (H1 : Heap) (locs1 : List Loc), va_P D vwCl (wC ad cA (sc_wday σ (va_cpy (c_kwday σ) (c_wday σ) (0 : Int32).toNatClampNeg (0 : Int32).toNatClampNeg (8 : Int32).toNatClampNeg))) H1 → va_D A (wC ad cA (sc_wday σ (va_cpy (c_kwday σ) (c_wday σ) (0 : Int32).toNatClampNeg (0 : Int32).toNatClampNeg (8 : Int32).toNatClampNeg))) → va_S A s.heap H1 locs1 → W p l e R s m args below meth c H1 locs1 cells slots Q (F0 m (pc + 3) ls rest)) : W p l e R s m args below meth c H locs cells slots Q (F0 m pc ls (.int 8 :: .int 0 :: .ref (ad 12) :: .int 0 :: .ref (ad 20) :: rest)) := va_copyi (ty := .int) CF.1 CF.2.1 (CF.2.2.1.trans hsz.symm) CF.2.2.2.1 (CF.2.2.2.2 _ (List.mem_cons_of_mem _ hl)) (CF.2.2.2.2 _ (List.mem_cons_of_mem _ mV_arraycopy)) (CF.2.2.2.2 _ (List.mem_cons_of_mem _ mT_arraycopy)) (CF.2.2.2.2 _ (List.mem_cons_of_mem _ mN_J10)) hK hP hD hS 20 12 0 0 rfl rfl rfl rfl rfl (by decide) (by decide) (by decide) (by decide) (by decide) (fun _ _ => rfl) hf hlo hdg (fun H1 locs1 h1 h2 h3 => kk H1 locs1 (Eq.mp (congrArg (fun w => va_P D vwCl w H1) (wc_wday (va_cpy (c_kwday σ) (c_wday σ) (0 : Int32).toNatClampNeg (0 : Int32).toNatClampNeg (8 : Int32).toNatClampNeg))) h1) (Eq.mp (congrArg (fun w => va_D A w) (wc_wday (va_cpy (c_kwday σ) (c_wday σ) (0 : Int32).toNatClampNeg (0 : Int32).toNatClampNeg (8 : Int32).toNatClampNeg))) h2) h3)
end ACCc
end
section
section ACCm
variable {p : Program} {l : Launch} {e : Env} {R : Room} {s : State} {m : MethodId} {args : Array Value} {below : List Frame} {meth : Method} {c : Code} {H : Heap} {locs : List Loc} {cells slots : Nat} {Q : State → Prop}
variable {cc : ByteArray} {pc : Nat} {ls : Array Slot} {rest : List Value} {D : va_G} {A : Nat → Prop} {y0 : MethodName} {nL idx : Nat} {ret0 : Option FieldType} {own : String} {ad : Nat → Nat} {cA : ClassId}
variable {σ : SM}
theorem gm_0_page (CF : CallFix p m c cc nL s args (wA y0 cc nL ret0) own) (hK : va_K D vwCl [(cA, .int)] s) (hP : va_P D vwCl (wM ad cA σ) H) (hl : Cond.fieldLink own idx "DugBySaidModel" "page" "[I" ∈ wsA) (hdg : decode cc pc = .ok (.getfield idx, 3)) (kk : W p l e R s m args below meth c H locs cells slots Q (F0 m (pc + 3) ls (.ref (ad 1) :: rest))) : W p l e R s m args below meth c H locs cells slots Q (F0 m pc ls (.ref (ad 0) :: rest)) := va_get (D := D) (ci := 6) (C := RX6) (T := TX6) (N := 22) CF.1 CF.2.1 CF.2.2.2.2 (fun w h => List.mem_cons_of_mem _ (in_X6 w h)) CF.2.2.2.1 hK hP 0 rfl rfl 0 (by decide) (CF.2.2.2.2 _ (List.mem_cons_of_mem _ hl)) (fun _ h => h) rfl hdg kk
theorem wm_pageMany (v : Int32) : (wM ad cA σ).set 0 (ad 0, .inr (6, ([.ref (ad 1), .int (m_pageMany σ), .int (m_endAt σ), .int (m_people σ), .int (m_river σ), .int (m_days σ), .int (m_changes σ), .int (m_hillsRead σ), .ref (ad 2), .ref (ad 3), .int (m_askedMany σ), .ref (ad 4), .ref (ad 5), .int (m_seedNow σ), .int (m_keptHill σ), .int (m_keptDays σ), .int (m_keptChanges σ), .int (m_keptAsked σ), .ref (ad 6), .ref (ad 7), .ref (ad 8), .long (m_hash σ)] : List Value).set 1 (.int v))) = wM ad cA (sm_pageMany σ v) := rfl
theorem gm_0_pageMany (CF : CallFix p m c cc nL s args (wA y0 cc nL ret0) own) (hK : va_K D vwCl [(cA, .int)] s) (hP : va_P D vwCl (wM ad cA σ) H) (hl : Cond.fieldLink own idx "DugBySaidModel" "pageMany" "I" ∈ wsA) (hdg : decode cc pc = .ok (.getfield idx, 3)) (kk : W p l e R s m args below meth c H locs cells slots Q (F0 m (pc + 3) ls (.int (m_pageMany σ) :: rest))) : W p l e R s m args below meth c H locs cells slots Q (F0 m pc ls (.ref (ad 0) :: rest)) := va_get (D := D) (ci := 6) (C := RX6) (T := TX6) (N := 22) CF.1 CF.2.1 CF.2.2.2.2 (fun w h => List.mem_cons_of_mem _ (in_X6 w h)) CF.2.2.2.1 hK hP 0 rfl rfl 1 (by decide) (CF.2.2.2.2 _ (List.mem_cons_of_mem _ hl)) (fun _ h => h) rfl hdg kk
theorem pm_0_pageMany (CF : CallFix p m c cc nL s args (wA y0 cc nL ret0) own) (hK : va_K D vwCl [(cA, .int)] s) (hP : va_P D vwCl (wM ad cA σ) H) (hD : va_D A (wM ad cA σ)) (hS : va_S A s.heap H locs) {x : Int32} (hl : Cond.fieldLink own idx "DugBySaidModel" "pageMany" "I" ∈ wsA) (hdg : decode cc pc = .ok (.putfield idx, 3)) (kk : ∀ (H1 : Heap) (locs1 : List Loc), va_P D vwCl (wM ad cA (sm_pageMany σ x)) H1 → va_D A (wM ad cA (sm_pageMany σ x)) → va_S A s.heap H1 locs1 → W p l e R s m args below meth c H1 locs1 cells slots Q (F0 m (pc + 3) ls rest)) : W p l e R s m args below meth c H locs cells slots Q (F0 m pc ls (.int x :: .ref (ad 0) :: rest)) := va_put (ty := .int) (v := .int x) (D := D) (ci := 6) (C := RX6) (T := TX6) (N := 22) CF.1 CF.2.1 CF.2.2.2.2 (fun w h => List.mem_cons_of_mem _ (in_X6 w h)) tyX6 tyX6_ok nmX6 CF.2.2.2.1 hK hP hD hS 0 rfl rfl 1 (by decide) (CF.2.2.2.2 _ (List.mem_cons_of_mem _ hl)) (fun _ h => h) rfl (by decide +kernel) rfl rfl (Nat.le_of_ble_eq_true rfl) hdg (fun H1 locs1 h1 h2 h3 => kk H1 locs1 (Eq.mp (congrArg (fun w => va_P D vwCl w H1) (wm_pageMany _)) h1) (Eq.mp (congrArg (fun w => va_D A w) (wm_pageMany _)) h2) h3)
theorem wm_endAt (v : Int32) : (wM ad cA σ).set 0 (ad 0, .inr (6, ([.ref (ad 1), .int (m_pageMany σ), .int (m_endAt σ), .int (m_people σ), .int (m_river σ), .int (m_days σ), .int (m_changes σ), .int (m_hillsRead σ), .ref (ad 2), .ref (ad 3), .int (m_askedMany σ), .ref (ad 4), .ref (ad 5), .int (m_seedNow σ), .int (m_keptHill σ), .int (m_keptDays σ), .int (m_keptChanges σ), .int (m_keptAsked σ), .ref (ad 6), .ref (ad 7), .ref (ad 8), .long (m_hash σ)] : List Value).set 2 (.int v))) = wM ad cA (sm_endAt σ v) := rfl
theorem gm_0_endAt (CF : CallFix p m c cc nL s args (wA y0 cc nL ret0) own) (hK : va_K D vwCl [(cA, .int)] s) (hP : va_P D vwCl (wM ad cA σ) H) (hl : Cond.fieldLink own idx "DugBySaidModel" "endAt" "I" ∈ wsA) (hdg : decode cc pc = .ok (.getfield idx, 3)) (kk : W p l e R s m args below meth c H locs cells slots Q (F0 m (pc + 3) ls (.int (m_endAt σ) :: rest))) : W p l e R s m args below meth c H locs cells slots Q (F0 m pc ls (.ref (ad 0) :: rest)) := va_get (D := D) (ci := 6) (C := RX6) (T := TX6) (N := 22) CF.1 CF.2.1 CF.2.2.2.2 (fun w h => List.mem_cons_of_mem _ (in_X6 w h)) CF.2.2.2.1 hK hP 0 rfl rfl 2 (by decide) (CF.2.2.2.2 _ (List.mem_cons_of_mem _ hl)) (fun _ h => h) rfl hdg kk
theorem pm_0_endAt (CF : CallFix p m c cc nL s args (wA y0 cc nL ret0) own) (hK : va_K D vwCl [(cA, .int)] s) (hP : va_P D vwCl (wM ad cA σ) H) (hD : va_D A (wM ad cA σ)) (hS : va_S A s.heap H locs) {x : Int32} (hl : Cond.fieldLink own idx "DugBySaidModel" "endAt" "I" ∈ wsA) (hdg : decode cc pc = .ok (.putfield idx, 3)) (kk : ∀ (H1 : Heap) (locs1 : List Loc), va_P D vwCl (wM ad cA (sm_endAt σ x)) H1 → va_D A (wM ad cA (sm_endAt σ x)) → va_S A s.heap H1 locs1 → W p l e R s m args below meth c H1 locs1 cells slots Q (F0 m (pc + 3) ls rest)) : W p l e R s m args below meth c H locs cells slots Q (F0 m pc ls (.int x :: .ref (ad 0) :: rest)) := va_put (ty := .int) (v := .int x) (D := D) (ci := 6) (C := RX6) (T := TX6) (N := 22) CF.1 CF.2.1 CF.2.2.2.2 (fun w h => List.mem_cons_of_mem _ (in_X6 w h)) tyX6 tyX6_ok nmX6 CF.2.2.2.1 hK hP hD hS 0 rfl rfl 2 (by decide) (CF.2.2.2.2 _ (List.mem_cons_of_mem _ hl)) (fun _ h => h) rfl (by decide +kernel) rfl rfl (Nat.le_of_ble_eq_true rfl) hdg (fun H1 locs1 h1 h2 h3 => kk H1 locs1 (Eq.mp (congrArg (fun w => va_P D vwCl w H1) (wm_endAt _)) h1) (Eq.mp (congrArg (fun w => va_D A w) (wm_endAt _)) h2) h3)
theorem wm_people (v : Int32) : (wM ad cA σ).set 0 (ad 0, .inr (6, ([.ref (ad 1), .int (m_pageMany σ), .int (m_endAt σ), .int (m_people σ), .int (m_river σ), .int (m_days σ), .int (m_changes σ), .int (m_hillsRead σ), .ref (ad 2), .ref (ad 3), .int (m_askedMany σ), .ref (ad 4), .ref (ad 5), .int (m_seedNow σ), .int (m_keptHill σ), .int (m_keptDays σ), .int (m_keptChanges σ), .int (m_keptAsked σ), .ref (ad 6), .ref (ad 7), .ref (ad 8), .long (m_hash σ)] : List Value).set 3 (.int v))) = wM ad cA (sm_people σ v) := rfl
theorem gm_0_people (CF : CallFix p m c cc nL s args (wA y0 cc nL ret0) own) (hK : va_K D vwCl [(cA, .int)] s) (hP : va_P D vwCl (wM ad cA σ) H) (hl : Cond.fieldLink own idx "DugBySaidModel" "people" "I" ∈ wsA) (hdg : decode cc pc = .ok (.getfield idx, 3)) (kk : W p l e R s m args below meth c H locs cells slots Q (F0 m (pc + 3) ls (.int (m_people σ) :: rest))) : W p l e R s m args below meth c H locs cells slots Q (F0 m pc ls (.ref (ad 0) :: rest)) := va_get (D := D) (ci := 6) (C := RX6) (T := TX6) (N := 22) CF.1 CF.2.1 CF.2.2.2.2 (fun w h => List.mem_cons_of_mem _ (in_X6 w h)) CF.2.2.2.1 hK hP 0 rfl rfl 3 (by decide) (CF.2.2.2.2 _ (List.mem_cons_of_mem _ hl)) (fun _ h => h) rfl hdg kk
theorem pm_0_people (CF : CallFix p m c cc nL s args (wA y0 cc nL ret0) own) (hK : va_K D vwCl [(cA, .int)] s) (hP : va_P D vwCl (wM ad cA σ) H) (hD : va_D A (wM ad cA σ)) (hS : va_S A s.heap H locs) {x : Int32} (hl : Cond.fieldLink own idx "DugBySaidModel" "people" "I" ∈ wsA) (hdg : decode cc pc = .ok (.putfield idx, 3)) (kk : ∀ (H1 : Heap) (locs1 : List Loc), va_P D vwCl (wM ad cA (sm_people σ x)) H1 → va_D A (wM ad cA (sm_people σ x)) → va_S A s.heap H1 locs1 → W p l e R s m args below meth c H1 locs1 cells slots Q (F0 m (pc + 3) ls rest)) : W p l e R s m args below meth c H locs cells slots Q (F0 m pc ls (.int x :: .ref (ad 0) :: rest)) := va_put (ty := .int) (v := .int x) (D := D) (ci := 6) (C := RX6) (T := TX6) (N := 22) CF.1 CF.2.1 CF.2.2.2.2 (fun w h => List.mem_cons_of_mem _ (in_X6 w h)) tyX6 tyX6_ok nmX6 CF.2.2.2.1 hK hP hD hS 0 rfl rfl 3 (by decide) (CF.2.2.2.2 _ (List.mem_cons_of_mem _ hl)) (fun _ h => h) rfl (by decide +kernel) rfl rfl (Nat.le_of_ble_eq_true rfl) hdg (fun H1 locs1 h1 h2 h3 => kk H1 locs1 (Eq.mp (congrArg (fun w => va_P D vwCl w H1) (wm_people _)) h1) (Eq.mp (congrArg (fun w => va_D A w) (wm_people _)) h2) h3)
theorem wm_river (v : Int32) : (wM ad cA σ).set 0 (ad 0, .inr (6, ([.ref (ad 1), .int (m_pageMany σ), .int (m_endAt σ), .int (m_people σ), .int (m_river σ), .int (m_days σ), .int (m_changes σ), .int (m_hillsRead σ), .ref (ad 2), .ref (ad 3), .int (m_askedMany σ), .ref (ad 4), .ref (ad 5), .int (m_seedNow σ), .int (m_keptHill σ), .int (m_keptDays σ), .int (m_keptChanges σ), .int (m_keptAsked σ), .ref (ad 6), .ref (ad 7), .ref (ad 8), .long (m_hash σ)] : List Value).set 4 (.int v))) = wM ad cA (sm_river σ v) := rfl
theorem gm_0_river (CF : CallFix p m c cc nL s args (wA y0 cc nL ret0) own) (hK : va_K D vwCl [(cA, .int)] s) (hP : va_P D vwCl (wM ad cA σ) H) (hl : Cond.fieldLink own idx "DugBySaidModel" "river" "I" ∈ wsA) (hdg : decode cc pc = .ok (.getfield idx, 3)) (kk : W p l e R s m args below meth c H locs cells slots Q (F0 m (pc + 3) ls (.int (m_river σ) :: rest))) : W p l e R s m args below meth c H locs cells slots Q (F0 m pc ls (.ref (ad 0) :: rest)) := va_get (D := D) (ci := 6) (C := RX6) (T := TX6) (N := 22) CF.1 CF.2.1 CF.2.2.2.2 (fun w h => List.mem_cons_of_mem _ (in_X6 w h)) CF.2.2.2.1 hK hP 0 rfl rfl 4 (by decide) (CF.2.2.2.2 _ (List.mem_cons_of_mem _ hl)) (fun _ h => h) rfl hdg kk
theorem pm_0_river (CF : CallFix p m c cc nL s args (wA y0 cc nL ret0) own) (hK : va_K D vwCl [(cA, .int)] s) (hP : va_P D vwCl (wM ad cA σ) H) (hD : va_D A (wM ad cA σ)) (hS : va_S A s.heap H locs) {x : Int32} (hl : Cond.fieldLink own idx "DugBySaidModel" "river" "I" ∈ wsA) (hdg : decode cc pc = .ok (.putfield idx, 3)) (kk : ∀ (H1 : Heap) (locs1 : List Loc), va_P D vwCl (wM ad cA (sm_river σ x)) H1 → va_D A (wM ad cA (sm_river σ x)) → va_S A s.heap H1 locs1 → W p l e R s m args below meth c H1 locs1 cells slots Q (F0 m (pc + 3) ls rest)) : W p l e R s m args below meth c H locs cells slots Q (F0 m pc ls (.int x :: .ref (ad 0) :: rest)) := va_put (ty := .int) (v := .int x) (D := D) (ci := 6) (C := RX6) (T := TX6) (N := 22) CF.1 CF.2.1 CF.2.2.2.2 (fun w h => List.mem_cons_of_mem _ (in_X6 w h)) tyX6 tyX6_ok nmX6 CF.2.2.2.1 hK hP hD hS 0 rfl rfl 4 (by decide) (CF.2.2.2.2 _ (List.mem_cons_of_mem _ hl)) (fun _ h => h) rfl (by decide +kernel) rfl rfl (Nat.le_of_ble_eq_true rfl) hdg (fun H1 locs1 h1 h2 h3 => kk H1 locs1 (Eq.mp (congrArg (fun w => va_P D vwCl w H1) (wm_river _)) h1) (Eq.mp (congrArg (fun w => va_D A w) (wm_river _)) h2) h3)
theorem wm_days (v : Int32) : (wM ad cA σ).set 0 (ad 0, .inr (6, ([.ref (ad 1), .int (m_pageMany σ), .int (m_endAt σ), .int (m_people σ), .int (m_river σ), .int (m_days σ), .int (m_changes σ), .int (m_hillsRead σ), .ref (ad 2), .ref (ad 3), .int (m_askedMany σ), .ref (ad 4), .ref (ad 5), .int (m_seedNow σ), .int (m_keptHill σ), .int (m_keptDays σ), .int (m_keptChanges σ), .int (m_keptAsked σ), .ref (ad 6), .ref (ad 7), .ref (ad 8), .long (m_hash σ)] : List Value).set 5 (.int v))) = wM ad cA (sm_days σ v) := rfl
theorem gm_0_days (CF : CallFix p m c cc nL s args (wA y0 cc nL ret0) own) (hK : va_K D vwCl [(cA, .int)] s) (hP : va_P D vwCl (wM ad cA σ) H) (hl : Cond.fieldLink own idx "DugBySaidModel" "days" "I" ∈ wsA) (hdg : decode cc pc = .ok (.getfield idx, 3)) (kk : W p l e R s m args below meth c H locs cells slots Q (F0 m (pc + 3) ls (.int (m_days σ) :: rest))) : W p l e R s m args below meth c H locs cells slots Q (F0 m pc ls (.ref (ad 0) :: rest)) := va_get (D := D) (ci := 6) (C := RX6) (T := TX6) (N := 22) CF.1 CF.2.1 CF.2.2.2.2 (fun w h => List.mem_cons_of_mem _ (in_X6 w h)) CF.2.2.2.1 hK hP 0 rfl rfl 5 (by decide) (CF.2.2.2.2 _ (List.mem_cons_of_mem _ hl)) (fun _ h => h) rfl hdg kk
theorem pm_0_days (CF : CallFix p m c cc nL s args (wA y0 cc nL ret0) own) (hK : va_K D vwCl [(cA, .int)] s) (hP : va_P D vwCl (wM ad cA σ) H) (hD : va_D A (wM ad cA σ)) (hS : va_S A s.heap H locs) {x : Int32} (hl : Cond.fieldLink own idx "DugBySaidModel" "days" "I" ∈ wsA) (hdg : decode cc pc = .ok (.putfield idx, 3)) (kk : ∀ (H1 : Heap) (locs1 : List Loc), va_P D vwCl (wM ad cA (sm_days σ x)) H1 → va_D A (wM ad cA (sm_days σ x)) → va_S A s.heap H1 locs1 → W p l e R s m args below meth c H1 locs1 cells slots Q (F0 m (pc + 3) ls rest)) : W p l e R s m args below meth c H locs cells slots Q (F0 m pc ls (.int x :: .ref (ad 0) :: rest)) := va_put (ty := .int) (v := .int x) (D := D) (ci := 6) (C := RX6) (T := TX6) (N := 22) CF.1 CF.2.1 CF.2.2.2.2 (fun w h => List.mem_cons_of_mem _ (in_X6 w h)) tyX6 tyX6_ok nmX6 CF.2.2.2.1 hK hP hD hS 0 rfl rfl 5 (by decide) (CF.2.2.2.2 _ (List.mem_cons_of_mem _ hl)) (fun _ h => h) rfl (by decide +kernel) rfl rfl (Nat.le_of_ble_eq_true rfl) hdg (fun H1 locs1 h1 h2 h3 => kk H1 locs1 (Eq.mp (congrArg (fun w => va_P D vwCl w H1) (wm_days _)) h1) (Eq.mp (congrArg (fun w => va_D A w) (wm_days _)) h2) h3)
theorem wm_changes (v : Int32) : (wM ad cA σ).set 0 (ad 0, .inr (6, ([.ref (ad 1), .int (m_pageMany σ), .int (m_endAt σ), .int (m_people σ), .int (m_river σ), .int (m_days σ), .int (m_changes σ), .int (m_hillsRead σ), .ref (ad 2), .ref (ad 3), .int (m_askedMany σ), .ref (ad 4), .ref (ad 5), .int (m_seedNow σ), .int (m_keptHill σ), .int (m_keptDays σ), .int (m_keptChanges σ), .int (m_keptAsked σ), .ref (ad 6), .ref (ad 7), .ref (ad 8), .long (m_hash σ)] : List Value).set 6 (.int v))) = wM ad cA (sm_changes σ v) := rfl
theorem gm_0_changes (CF : CallFix p m c cc nL s args (wA y0 cc nL ret0) own) (hK : va_K D vwCl [(cA, .int)] s) (hP : va_P D vwCl (wM ad cA σ) H) (hl : Cond.fieldLink own idx "DugBySaidModel" "changes" "I" ∈ wsA) (hdg : decode cc pc = .ok (.getfield idx, 3)) (kk : W p l e R s m args below meth c H locs cells slots Q (F0 m (pc + 3) ls (.int (m_changes σ) :: rest))) : W p l e R s m args below meth c H locs cells slots Q (F0 m pc ls (.ref (ad 0) :: rest)) := va_get (D := D) (ci := 6) (C := RX6) (T := TX6) (N := 22) CF.1 CF.2.1 CF.2.2.2.2 (fun w h => List.mem_cons_of_mem _ (in_X6 w h)) CF.2.2.2.1 hK hP 0 rfl rfl 6 (by decide) (CF.2.2.2.2 _ (List.mem_cons_of_mem _ hl)) (fun _ h => h) rfl hdg kk
theorem pm_0_changes (CF : CallFix p m c cc nL s args (wA y0 cc nL ret0) own) (hK : va_K D vwCl [(cA, .int)] s) (hP : va_P D vwCl (wM ad cA σ) H) (hD : va_D A (wM ad cA σ)) (hS : va_S A s.heap H locs) {x : Int32} (hl : Cond.fieldLink own idx "DugBySaidModel" "changes" "I" ∈ wsA) (hdg : decode cc pc = .ok (.putfield idx, 3)) (kk : ∀ (H1 : Heap) (locs1 : List Loc), va_P D vwCl (wM ad cA (sm_changes σ x)) H1 → va_D A (wM ad cA (sm_changes σ x)) → va_S A s.heap H1 locs1 → W p l e R s m args below meth c H1 locs1 cells slots Q (F0 m (pc + 3) ls rest)) : W p l e R s m args below meth c H locs cells slots Q (F0 m pc ls (.int x :: .ref (ad 0) :: rest)) := va_put (ty := .int) (v := .int x) (D := D) (ci := 6) (C := RX6) (T := TX6) (N := 22) CF.1 CF.2.1 CF.2.2.2.2 (fun w h => List.mem_cons_of_mem _ (in_X6 w h)) tyX6 tyX6_ok nmX6 CF.2.2.2.1 hK hP hD hS 0 rfl rfl 6 (by decide) (CF.2.2.2.2 _ (List.mem_cons_of_mem _ hl)) (fun _ h => h) rfl (by decide +kernel) rfl rfl (Nat.le_of_ble_eq_true rfl) hdg (fun H1 locs1 h1 h2 h3 => kk H1 locs1 (Eq.mp (congrArg (fun w => va_P D vwCl w H1) (wm_changes _)) h1) (Eq.mp (congrArg (fun w => va_D A w) (wm_changes _)) h2) h3)
theorem wm_hillsRead (v : Int32) : (wM ad cA σ).set 0 (ad 0, .inr (6, ([.ref (ad 1), .int (m_pageMany σ), .int (m_endAt σ), .int (m_people σ), .int (m_river σ), .int (m_days σ), .int (m_changes σ), .int (m_hillsRead σ), .ref (ad 2), .ref (ad 3), .int (m_askedMany σ), .ref (ad 4), .ref (ad 5), .int (m_seedNow σ), .int (m_keptHill σ), .int (m_keptDays σ), .int (m_keptChanges σ), .int (m_keptAsked σ), .ref (ad 6), .ref (ad 7), .ref (ad 8), .long (m_hash σ)] : List Value).set 7 (.int v))) = wM ad cA (sm_hillsRead σ v) := rfl
theorem gm_0_hillsRead (CF : CallFix p m c cc nL s args (wA y0 cc nL ret0) own) (hK : va_K D vwCl [(cA, .int)] s) (hP : va_P D vwCl (wM ad cA σ) H) (hl : Cond.fieldLink own idx "DugBySaidModel" "hillsRead" "I" ∈ wsA) (hdg : decode cc pc = .ok (.getfield idx, 3)) (kk : W p l e R s m args below meth c H locs cells slots Q (F0 m (pc + 3) ls (.int (m_hillsRead σ) :: rest))) : W p l e R s m args below meth c H locs cells slots Q (F0 m pc ls (.ref (ad 0) :: rest)) := va_get (D := D) (ci := 6) (C := RX6) (T := TX6) (N := 22) CF.1 CF.2.1 CF.2.2.2.2 (fun w h => List.mem_cons_of_mem _ (in_X6 w h)) CF.2.2.2.1 hK hP 0 rfl rfl 7 (by decide) (CF.2.2.2.2 _ (List.mem_cons_of_mem _ hl)) (fun _ h => h) rfl hdg kk
theorem pm_0_hillsRead (CF : CallFix p m c cc nL s args (wA y0 cc nL ret0) own) (hK : va_K D vwCl [(cA, .int)] s) (hP : va_P D vwCl (wM ad cA σ) H) (hD : va_D A (wM ad cA σ)) (hS : va_S A s.heap H locs) {x : Int32} (hl : Cond.fieldLink own idx "DugBySaidModel" "hillsRead" "I" ∈ wsA) (hdg : decode cc pc = .ok (.putfield idx, 3)) (kk : ∀ (H1 : Heap) (locs1 : List Loc), va_P D vwCl (wM ad cA (sm_hillsRead σ x)) H1 → va_D A (wM ad cA (sm_hillsRead σ x)) → va_S A s.heap H1 locs1 → W p l e R s m args below meth c H1 locs1 cells slots Q (F0 m (pc + 3) ls rest)) : W p l e R s m args below meth c H locs cells slots Q (F0 m pc ls (.int x :: .ref (ad 0) :: rest)) := va_put (ty := .int) (v := .int x) (D := D) (ci := 6) (C := RX6) (T := TX6) (N := 22) CF.1 CF.2.1 CF.2.2.2.2 (fun w h => List.mem_cons_of_mem _ (in_X6 w h)) tyX6 tyX6_ok nmX6 CF.2.2.2.1 hK hP hD hS 0 rfl rfl 7 (by decide) (CF.2.2.2.2 _ (List.mem_cons_of_mem _ hl)) (fun _ h => h) rfl (by decide +kernel) rfl rfl (Nat.le_of_ble_eq_true rfl) hdg (fun H1 locs1 h1 h2 h3 => kk H1 locs1 (Eq.mp (congrArg (fun w => va_P D vwCl w H1) (wm_hillsRead _)) h1) (Eq.mp (congrArg (fun w => va_D A w) (wm_hillsRead _)) h2) h3)
theorem gm_0_rows (CF : CallFix p m c cc nL s args (wA y0 cc nL ret0) own) (hK : va_K D vwCl [(cA, .int)] s) (hP : va_P D vwCl (wM ad cA σ) H) (hl : Cond.fieldLink own idx "DugBySaidModel" "rows" "[I" ∈ wsA) (hdg : decode cc pc = .ok (.getfield idx, 3)) (kk : W p l e R s m args below meth c H locs cells slots Q (F0 m (pc + 3) ls (.ref (ad 2) :: rest))) : W p l e R s m args below meth c H locs cells slots Q (F0 m pc ls (.ref (ad 0) :: rest)) := va_get (D := D) (ci := 6) (C := RX6) (T := TX6) (N := 22) CF.1 CF.2.1 CF.2.2.2.2 (fun w h => List.mem_cons_of_mem _ (in_X6 w h)) CF.2.2.2.1 hK hP 0 rfl rfl 8 (by decide) (CF.2.2.2.2 _ (List.mem_cons_of_mem _ hl)) (fun _ h => h) rfl hdg kk
theorem gm_0_tunnels (CF : CallFix p m c cc nL s args (wA y0 cc nL ret0) own) (hK : va_K D vwCl [(cA, .int)] s) (hP : va_P D vwCl (wM ad cA σ) H) (hl : Cond.fieldLink own idx "DugBySaidModel" "tunnels" "[I" ∈ wsA) (hdg : decode cc pc = .ok (.getfield idx, 3)) (kk : W p l e R s m args below meth c H locs cells slots Q (F0 m (pc + 3) ls (.ref (ad 3) :: rest))) : W p l e R s m args below meth c H locs cells slots Q (F0 m pc ls (.ref (ad 0) :: rest)) := va_get (D := D) (ci := 6) (C := RX6) (T := TX6) (N := 22) CF.1 CF.2.1 CF.2.2.2.2 (fun w h => List.mem_cons_of_mem _ (in_X6 w h)) CF.2.2.2.1 hK hP 0 rfl rfl 9 (by decide) (CF.2.2.2.2 _ (List.mem_cons_of_mem _ hl)) (fun _ h => h) rfl hdg kk
theorem wm_askedMany (v : Int32) : (wM ad cA σ).set 0 (ad 0, .inr (6, ([.ref (ad 1), .int (m_pageMany σ), .int (m_endAt σ), .int (m_people σ), .int (m_river σ), .int (m_days σ), .int (m_changes σ), .int (m_hillsRead σ), .ref (ad 2), .ref (ad 3), .int (m_askedMany σ), .ref (ad 4), .ref (ad 5), .int (m_seedNow σ), .int (m_keptHill σ), .int (m_keptDays σ), .int (m_keptChanges σ), .int (m_keptAsked σ), .ref (ad 6), .ref (ad 7), .ref (ad 8), .long (m_hash σ)] : List Value).set 10 (.int v))) = wM ad cA (sm_askedMany σ v) := rfl
theorem gm_0_askedMany (CF : CallFix p m c cc nL s args (wA y0 cc nL ret0) own) (hK : va_K D vwCl [(cA, .int)] s) (hP : va_P D vwCl (wM ad cA σ) H) (hl : Cond.fieldLink own idx "DugBySaidModel" "askedMany" "I" ∈ wsA) (hdg : decode cc pc = .ok (.getfield idx, 3)) (kk : W p l e R s m args below meth c H locs cells slots Q (F0 m (pc + 3) ls (.int (m_askedMany σ) :: rest))) : W p l e R s m args below meth c H locs cells slots Q (F0 m pc ls (.ref (ad 0) :: rest)) := va_get (D := D) (ci := 6) (C := RX6) (T := TX6) (N := 22) CF.1 CF.2.1 CF.2.2.2.2 (fun w h => List.mem_cons_of_mem _ (in_X6 w h)) CF.2.2.2.1 hK hP 0 rfl rfl 10 (by decide) (CF.2.2.2.2 _ (List.mem_cons_of_mem _ hl)) (fun _ h => h) rfl hdg kk
theorem pm_0_askedMany (CF : CallFix p m c cc nL s args (wA y0 cc nL ret0) own) (hK : va_K D vwCl [(cA, .int)] s) (hP : va_P D vwCl (wM ad cA σ) H) (hD : va_D A (wM ad cA σ)) (hS : va_S A s.heap H locs) {x : Int32} (hl : Cond.fieldLink own idx "DugBySaidModel" "askedMany" "I" ∈ wsA) (hdg : decode cc pc = .ok (.putfield idx, 3)) (kk : ∀ (H1 : Heap) (locs1 : List Loc), va_P D vwCl (wM ad cA (sm_askedMany σ x)) H1 → va_D A (wM ad cA (sm_askedMany σ x)) → va_S A s.heap H1 locs1 → W p l e R s m args below meth c H1 locs1 cells slots Q (F0 m (pc + 3) ls rest)) : W p l e R s m args below meth c H locs cells slots Q (F0 m pc ls (.int x :: .ref (ad 0) :: rest)) := va_put (ty := .int) (v := .int x) (D := D) (ci := 6) (C := RX6) (T := TX6) (N := 22) CF.1 CF.2.1 CF.2.2.2.2 (fun w h => List.mem_cons_of_mem _ (in_X6 w h)) tyX6 tyX6_ok nmX6 CF.2.2.2.1 hK hP hD hS 0 rfl rfl 10 (by decide) (CF.2.2.2.2 _ (List.mem_cons_of_mem _ hl)) (fun _ h => h) rfl (by decide +kernel) rfl rfl (Nat.le_of_ble_eq_true rfl) hdg (fun H1 locs1 h1 h2 h3 => kk H1 locs1 (Eq.mp (congrArg (fun w => va_P D vwCl w H1) (wm_askedMany _)) h1) (Eq.mp (congrArg (fun w => va_D A w) (wm_askedMany _)) h2) h3)
theorem gm_0_askeds (CF : CallFix p m c cc nL s args (wA y0 cc nL ret0) own) (hK : va_K D vwCl [(cA, .int)] s) (hP : va_P D vwCl (wM ad cA σ) H) (hl : Cond.fieldLink own idx "DugBySaidModel" "askeds" "[I" ∈ wsA) (hdg : decode cc pc = .ok (.getfield idx, 3)) (kk : W p l e R s m args below meth c H locs cells slots Q (F0 m (pc + 3) ls (.ref (ad 4) :: rest))) : W p l e R s m args below meth c H locs cells slots Q (F0 m pc ls (.ref (ad 0) :: rest)) := va_get (D := D) (ci := 6) (C := RX6) (T := TX6) (N := 22) CF.1 CF.2.1 CF.2.2.2.2 (fun w h => List.mem_cons_of_mem _ (in_X6 w h)) CF.2.2.2.1 hK hP 0 rfl rfl 11 (by decide) (CF.2.2.2.2 _ (List.mem_cons_of_mem _ hl)) (fun _ h => h) rfl hdg kk
theorem gm_0_parts (CF : CallFix p m c cc nL s args (wA y0 cc nL ret0) own) (hK : va_K D vwCl [(cA, .int)] s) (hP : va_P D vwCl (wM ad cA σ) H) (hl : Cond.fieldLink own idx "DugBySaidModel" "parts" "[I" ∈ wsA) (hdg : decode cc pc = .ok (.getfield idx, 3)) (kk : W p l e R s m args below meth c H locs cells slots Q (F0 m (pc + 3) ls (.ref (ad 5) :: rest))) : W p l e R s m args below meth c H locs cells slots Q (F0 m pc ls (.ref (ad 0) :: rest)) := va_get (D := D) (ci := 6) (C := RX6) (T := TX6) (N := 22) CF.1 CF.2.1 CF.2.2.2.2 (fun w h => List.mem_cons_of_mem _ (in_X6 w h)) CF.2.2.2.1 hK hP 0 rfl rfl 12 (by decide) (CF.2.2.2.2 _ (List.mem_cons_of_mem _ hl)) (fun _ h => h) rfl hdg kk
theorem wm_seedNow (v : Int32) : (wM ad cA σ).set 0 (ad 0, .inr (6, ([.ref (ad 1), .int (m_pageMany σ), .int (m_endAt σ), .int (m_people σ), .int (m_river σ), .int (m_days σ), .int (m_changes σ), .int (m_hillsRead σ), .ref (ad 2), .ref (ad 3), .int (m_askedMany σ), .ref (ad 4), .ref (ad 5), .int (m_seedNow σ), .int (m_keptHill σ), .int (m_keptDays σ), .int (m_keptChanges σ), .int (m_keptAsked σ), .ref (ad 6), .ref (ad 7), .ref (ad 8), .long (m_hash σ)] : List Value).set 13 (.int v))) = wM ad cA (sm_seedNow σ v) := rfl
theorem gm_0_seedNow (CF : CallFix p m c cc nL s args (wA y0 cc nL ret0) own) (hK : va_K D vwCl [(cA, .int)] s) (hP : va_P D vwCl (wM ad cA σ) H) (hl : Cond.fieldLink own idx "DugBySaidModel" "seedNow" "I" ∈ wsA) (hdg : decode cc pc = .ok (.getfield idx, 3)) (kk : W p l e R s m args below meth c H locs cells slots Q (F0 m (pc + 3) ls (.int (m_seedNow σ) :: rest))) : W p l e R s m args below meth c H locs cells slots Q (F0 m pc ls (.ref (ad 0) :: rest)) := va_get (D := D) (ci := 6) (C := RX6) (T := TX6) (N := 22) CF.1 CF.2.1 CF.2.2.2.2 (fun w h => List.mem_cons_of_mem _ (in_X6 w h)) CF.2.2.2.1 hK hP 0 rfl rfl 13 (by decide) (CF.2.2.2.2 _ (List.mem_cons_of_mem _ hl)) (fun _ h => h) rfl hdg kk
theorem pm_0_seedNow (CF : CallFix p m c cc nL s args (wA y0 cc nL ret0) own) (hK : va_K D vwCl [(cA, .int)] s) (hP : va_P D vwCl (wM ad cA σ) H) (hD : va_D A (wM ad cA σ)) (hS : va_S A s.heap H locs) {x : Int32} (hl : Cond.fieldLink own idx "DugBySaidModel" "seedNow" "I" ∈ wsA) (hdg : decode cc pc = .ok (.putfield idx, 3)) (kk : ∀ (H1 : Heap) (locs1 : List Loc), va_P D vwCl (wM ad cA (sm_seedNow σ x)) H1 → va_D A (wM ad cA (sm_seedNow σ x)) → va_S A s.heap H1 locs1 → W p l e R s m args below meth c H1 locs1 cells slots Q (F0 m (pc + 3) ls rest)) : W p l e R s m args below meth c H locs cells slots Q (F0 m pc ls (.int x :: .ref (ad 0) :: rest)) := va_put (ty := .int) (v := .int x) (D := D) (ci := 6) (C := RX6) (T := TX6) (N := 22) CF.1 CF.2.1 CF.2.2.2.2 (fun w h => List.mem_cons_of_mem _ (in_X6 w h)) tyX6 tyX6_ok nmX6 CF.2.2.2.1 hK hP hD hS 0 rfl rfl 13 (by decide) (CF.2.2.2.2 _ (List.mem_cons_of_mem _ hl)) (fun _ h => h) rfl (by decide +kernel) rfl rfl (Nat.le_of_ble_eq_true rfl) hdg (fun H1 locs1 h1 h2 h3 => kk H1 locs1 (Eq.mp (congrArg (fun w => va_P D vwCl w H1) (wm_seedNow _)) h1) (Eq.mp (congrArg (fun w => va_D A w) (wm_seedNow _)) h2) h3)
theorem wm_keptHill (v : Int32) : (wM ad cA σ).set 0 (ad 0, .inr (6, ([.ref (ad 1), .int (m_pageMany σ), .int (m_endAt σ), .int (m_people σ), .int (m_river σ), .int (m_days σ), .int (m_changes σ), .int (m_hillsRead σ), .ref (ad 2), .ref (ad 3), .int (m_askedMany σ), .ref (ad 4), .ref (ad 5), .int (m_seedNow σ), .int (m_keptHill σ), .int (m_keptDays σ), .int (m_keptChanges σ), .int (m_keptAsked σ), .ref (ad 6), .ref (ad 7), .ref (ad 8), .long (m_hash σ)] : List Value).set 14 (.int v))) = wM ad cA (sm_keptHill σ v) := rfl
theorem gm_0_keptHill (CF : CallFix p m c cc nL s args (wA y0 cc nL ret0) own) (hK : va_K D vwCl [(cA, .int)] s) (hP : va_P D vwCl (wM ad cA σ) H) (hl : Cond.fieldLink own idx "DugBySaidModel" "keptHill" "I" ∈ wsA) (hdg : decode cc pc = .ok (.getfield idx, 3)) (kk : W p l e R s m args below meth c H locs cells slots Q (F0 m (pc + 3) ls (.int (m_keptHill σ) :: rest))) : W p l e R s m args below meth c H locs cells slots Q (F0 m pc ls (.ref (ad 0) :: rest)) := va_get (D := D) (ci := 6) (C := RX6) (T := TX6) (N := 22) CF.1 CF.2.1 CF.2.2.2.2 (fun w h => List.mem_cons_of_mem _ (in_X6 w h)) CF.2.2.2.1 hK hP 0 rfl rfl 14 (by decide) (CF.2.2.2.2 _ (List.mem_cons_of_mem _ hl)) (fun _ h => h) rfl hdg kk
theorem pm_0_keptHill (CF : CallFix p m c cc nL s args (wA y0 cc nL ret0) own) (hK : va_K D vwCl [(cA, .int)] s) (hP : va_P D vwCl (wM ad cA σ) H) (hD : va_D A (wM ad cA σ)) (hS : va_S A s.heap H locs) {x : Int32} (hl : Cond.fieldLink own idx "DugBySaidModel" "keptHill" "I" ∈ wsA) (hdg : decode cc pc = .ok (.putfield idx, 3)) (kk : ∀ (H1 : Heap) (locs1 : List Loc), va_P D vwCl (wM ad cA (sm_keptHill σ x)) H1 → va_D A (wM ad cA (sm_keptHill σ x)) → va_S A s.heap H1 locs1 → W p l e R s m args below meth c H1 locs1 cells slots Q (F0 m (pc + 3) ls rest)) : W p l e R s m args below meth c H locs cells slots Q (F0 m pc ls (.int x :: .ref (ad 0) :: rest)) := va_put (ty := .int) (v := .int x) (D := D) (ci := 6) (C := RX6) (T := TX6) (N := 22) CF.1 CF.2.1 CF.2.2.2.2 (fun w h => List.mem_cons_of_mem _ (in_X6 w h)) tyX6 tyX6_ok nmX6 CF.2.2.2.1 hK hP hD hS 0 rfl rfl 14 (by decide) (CF.2.2.2.2 _ (List.mem_cons_of_mem _ hl)) (fun _ h => h) rfl (by decide +kernel) rfl rfl (Nat.le_of_ble_eq_true rfl) hdg (fun H1 locs1 h1 h2 h3 => kk H1 locs1 (Eq.mp (congrArg (fun w => va_P D vwCl w H1) (wm_keptHill _)) h1) (Eq.mp (congrArg (fun w => va_D A w) (wm_keptHill _)) h2) h3)
theorem wm_keptDays (v : Int32) : (wM ad cA σ).set 0 (ad 0, .inr (6, ([.ref (ad 1), .int (m_pageMany σ), .int (m_endAt σ), .int (m_people σ), .int (m_river σ), .int (m_days σ), .int (m_changes σ), .int (m_hillsRead σ), .ref (ad 2), .ref (ad 3), .int (m_askedMany σ), .ref (ad 4), .ref (ad 5), .int (m_seedNow σ), .int (m_keptHill σ), .int (m_keptDays σ), .int (m_keptChanges σ), .int (m_keptAsked σ), .ref (ad 6), .ref (ad 7), .ref (ad 8), .long (m_hash σ)] : List Value).set 15 (.int v))) = wM ad cA (sm_keptDays σ v) := rfl
theorem gm_0_keptDays (CF : CallFix p m c cc nL s args (wA y0 cc nL ret0) own) (hK : va_K D vwCl [(cA, .int)] s) (hP : va_P D vwCl (wM ad cA σ) H) (hl : Cond.fieldLink own idx "DugBySaidModel" "keptDays" "I" ∈ wsA) (hdg : decode cc pc = .ok (.getfield idx, 3)) (kk : W p l e R s m args below meth c H locs cells slots Q (F0 m (pc + 3) ls (.int (m_keptDays σ) :: rest))) : W p l e R s m args below meth c H locs cells slots Q (F0 m pc ls (.ref (ad 0) :: rest)) := va_get (D := D) (ci := 6) (C := RX6) (T := TX6) (N := 22) CF.1 CF.2.1 CF.2.2.2.2 (fun w h => List.mem_cons_of_mem _ (in_X6 w h)) CF.2.2.2.1 hK hP 0 rfl rfl 15 (by decide) (CF.2.2.2.2 _ (List.mem_cons_of_mem _ hl)) (fun _ h => h) rfl hdg kk
theorem pm_0_keptDays (CF : CallFix p m c cc nL s args (wA y0 cc nL ret0) own) (hK : va_K D vwCl [(cA, .int)] s) (hP : va_P D vwCl (wM ad cA σ) H) (hD : va_D A (wM ad cA σ)) (hS : va_S A s.heap H locs) {x : Int32} (hl : Cond.fieldLink own idx "DugBySaidModel" "keptDays" "I" ∈ wsA) (hdg : decode cc pc = .ok (.putfield idx, 3)) (kk : ∀ (H1 : Heap) (locs1 : List Loc), va_P D vwCl (wM ad cA (sm_keptDays σ x)) H1 → va_D A (wM ad cA (sm_keptDays σ x)) → va_S A s.heap H1 locs1 → W p l e R s m args below meth c H1 locs1 cells slots Q (F0 m (pc + 3) ls rest)) : W p l e R s m args below meth c H locs cells slots Q (F0 m pc ls (.int x :: .ref (ad 0) :: rest)) := va_put (ty := .int) (v := .int x) (D := D) (ci := 6) (C := RX6) (T := TX6) (N := 22) CF.1 CF.2.1 CF.2.2.2.2 (fun w h => List.mem_cons_of_mem _ (in_X6 w h)) tyX6 tyX6_ok nmX6 CF.2.2.2.1 hK hP hD hS 0 rfl rfl 15 (by decide) (CF.2.2.2.2 _ (List.mem_cons_of_mem _ hl)) (fun _ h => h) rfl (by decide +kernel) rfl rfl (Nat.le_of_ble_eq_true rfl) hdg (fun H1 locs1 h1 h2 h3 => kk H1 locs1 (Eq.mp (congrArg (fun w => va_P D vwCl w H1) (wm_keptDays _)) h1) (Eq.mp (congrArg (fun w => va_D A w) (wm_keptDays _)) h2) h3)
theorem wm_keptChanges (v : Int32) : (wM ad cA σ).set 0 (ad 0, .inr (6, ([.ref (ad 1), .int (m_pageMany σ), .int (m_endAt σ), .int (m_people σ), .int (m_river σ), .int (m_days σ), .int (m_changes σ), .int (m_hillsRead σ), .ref (ad 2), .ref (ad 3), .int (m_askedMany σ), .ref (ad 4), .ref (ad 5), .int (m_seedNow σ), .int (m_keptHill σ), .int (m_keptDays σ), .int (m_keptChanges σ), .int (m_keptAsked σ), .ref (ad 6), .ref (ad 7), .ref (ad 8), .long (m_hash σ)] : List Value).set 16 (.int v))) = wM ad cA (sm_keptChanges σ v) := rfl
theorem gm_0_keptChanges (CF : CallFix p m c cc nL s args (wA y0 cc nL ret0) own) (hK : va_K D vwCl [(cA, .int)] s) (hP : va_P D vwCl (wM ad cA σ) H) (hl : Cond.fieldLink own idx "DugBySaidModel" "keptChanges" "I" ∈ wsA) (hdg : decode cc pc = .ok (.getfield idx, 3)) (kk : W p l e R s m args below meth c H locs cells slots Q (F0 m (pc + 3) ls (.int (m_keptChanges σ) :: rest))) : W p l e R s m args below meth c H locs cells slots Q (F0 m pc ls (.ref (ad 0) :: rest)) := va_get (D := D) (ci := 6) (C := RX6) (T := TX6) (N := 22) CF.1 CF.2.1 CF.2.2.2.2 (fun w h => List.mem_cons_of_mem _ (in_X6 w h)) CF.2.2.2.1 hK hP 0 rfl rfl 16 (by decide) (CF.2.2.2.2 _ (List.mem_cons_of_mem _ hl)) (fun _ h => h) rfl hdg kk
theorem pm_0_keptChanges (CF : CallFix p m c cc nL s args (wA y0 cc nL ret0) own) (hK : va_K D vwCl [(cA, .int)] s) (hP : va_P D vwCl (wM ad cA σ) H) (hD : va_D A (wM ad cA σ)) (hS : va_S A s.heap H locs) {x : Int32} (hl : Cond.fieldLink own idx "DugBySaidModel" "keptChanges" "I" ∈ wsA) (hdg : decode cc pc = .ok (.putfield idx, 3)) (kk : ∀ (H1 : Heap) (locs1 : List Loc), va_P D vwCl (wM ad cA (sm_keptChanges σ x)) H1 → va_D A (wM ad cA (sm_keptChanges σ x)) → va_S A s.heap H1 locs1 → W p l e R s m args below meth c H1 locs1 cells slots Q (F0 m (pc + 3) ls rest)) : W p l e R s m args below meth c H locs cells slots Q (F0 m pc ls (.int x :: .ref (ad 0) :: rest)) := va_put (ty := .int) (v := .int x) (D := D) (ci := 6) (C := RX6) (T := TX6) (N := 22) CF.1 CF.2.1 CF.2.2.2.2 (fun w h => List.mem_cons_of_mem _ (in_X6 w h)) tyX6 tyX6_ok nmX6 CF.2.2.2.1 hK hP hD hS 0 rfl rfl 16 (by decide) (CF.2.2.2.2 _ (List.mem_cons_of_mem _ hl)) (fun _ h => h) rfl (by decide +kernel) rfl rfl (Nat.le_of_ble_eq_true rfl) hdg (fun H1 locs1 h1 h2 h3 => kk H1 locs1 (Eq.mp (congrArg (fun w => va_P D vwCl w H1) (wm_keptChanges _)) h1) (Eq.mp (congrArg (fun w => va_D A w) (wm_keptChanges _)) h2) h3)
theorem wm_keptAsked (v : Int32) : (wM ad cA σ).set 0 (ad 0, .inr (6, ([.ref (ad 1), .int (m_pageMany σ), .int (m_endAt σ), .int (m_people σ), .int (m_river σ), .int (m_days σ), .int (m_changes σ), .int (m_hillsRead σ), .ref (ad 2), .ref (ad 3), .int (m_askedMany σ), .ref (ad 4), .ref (ad 5), .int (m_seedNow σ), .int (m_keptHill σ), .int (m_keptDays σ), .int (m_keptChanges σ), .int (m_keptAsked σ), .ref (ad 6), .ref (ad 7), .ref (ad 8), .long (m_hash σ)] : List Value).set 17 (.int v))) = wM ad cA (sm_keptAsked σ v) := rfl
theorem gm_0_keptAsked (CF : CallFix p m c cc nL s args (wA y0 cc nL ret0) own) (hK : va_K D vwCl [(cA, .int)] s) (hP : va_P D vwCl (wM ad cA σ) H) (hl : Cond.fieldLink own idx "DugBySaidModel" "keptAsked" "I" ∈ wsA) (hdg : decode cc pc = .ok (.getfield idx, 3)) (kk : W p l e R s m args below meth c H locs cells slots Q (F0 m (pc + 3) ls (.int (m_keptAsked σ) :: rest))) : W p l e R s m args below meth c H locs cells slots Q (F0 m pc ls (.ref (ad 0) :: rest)) := va_get (D := D) (ci := 6) (C := RX6) (T := TX6) (N := 22) CF.1 CF.2.1 CF.2.2.2.2 (fun w h => List.mem_cons_of_mem _ (in_X6 w h)) CF.2.2.2.1 hK hP 0 rfl rfl 17 (by decide) (CF.2.2.2.2 _ (List.mem_cons_of_mem _ hl)) (fun _ h => h) rfl hdg kk
theorem pm_0_keptAsked (CF : CallFix p m c cc nL s args (wA y0 cc nL ret0) own) (hK : va_K D vwCl [(cA, .int)] s) (hP : va_P D vwCl (wM ad cA σ) H) (hD : va_D A (wM ad cA σ)) (hS : va_S A s.heap H locs) {x : Int32} (hl : Cond.fieldLink own idx "DugBySaidModel" "keptAsked" "I" ∈ wsA) (hdg : decode cc pc = .ok (.putfield idx, 3)) (kk : ∀ (H1 : Heap) (locs1 : List Loc), va_P D vwCl (wM ad cA (sm_keptAsked σ x)) H1 → va_D A (wM ad cA (sm_keptAsked σ x)) → va_S A s.heap H1 locs1 → W p l e R s m args below meth c H1 locs1 cells slots Q (F0 m (pc + 3) ls rest)) : W p l e R s m args below meth c H locs cells slots Q (F0 m pc ls (.int x :: .ref (ad 0) :: rest)) := va_put (ty := .int) (v := .int x) (D := D) (ci := 6) (C := RX6) (T := TX6) (N := 22) CF.1 CF.2.1 CF.2.2.2.2 (fun w h => List.mem_cons_of_mem _ (in_X6 w h)) tyX6 tyX6_ok nmX6 CF.2.2.2.1 hK hP hD hS 0 rfl rfl 17 (by decide) (CF.2.2.2.2 _ (List.mem_cons_of_mem _ hl)) (fun _ h => h) rfl (by decide +kernel) rfl rfl (Nat.le_of_ble_eq_true rfl) hdg (fun H1 locs1 h1 h2 h3 => kk H1 locs1 (Eq.mp (congrArg (fun w => va_P D vwCl w H1) (wm_keptAsked _)) h1) (Eq.mp (congrArg (fun w => va_D A w) (wm_keptAsked _)) h2) h3)
theorem gm_0_keptRows (CF : CallFix p m c cc nL s args (wA y0 cc nL ret0) own) (hK : va_K D vwCl [(cA, .int)] s) (hP : va_P D vwCl (wM ad cA σ) H) (hl : Cond.fieldLink own idx "DugBySaidModel" "keptRows" "[I" ∈ wsA) (hdg : decode cc pc = .ok (.getfield idx, 3)) (kk : W p l e R s m args below meth c H locs cells slots Q (F0 m (pc + 3) ls (.ref (ad 6) :: rest))) : W p l e R s m args below meth c H locs cells slots Q (F0 m pc ls (.ref (ad 0) :: rest)) := va_get (D := D) (ci := 6) (C := RX6) (T := TX6) (N := 22) CF.1 CF.2.1 CF.2.2.2.2 (fun w h => List.mem_cons_of_mem _ (in_X6 w h)) CF.2.2.2.1 hK hP 0 rfl rfl 18 (by decide) (CF.2.2.2.2 _ (List.mem_cons_of_mem _ hl)) (fun _ h => h) rfl hdg kk
theorem gm_0_keptTunnels (CF : CallFix p m c cc nL s args (wA y0 cc nL ret0) own) (hK : va_K D vwCl [(cA, .int)] s) (hP : va_P D vwCl (wM ad cA σ) H) (hl : Cond.fieldLink own idx "DugBySaidModel" "keptTunnels" "[I" ∈ wsA) (hdg : decode cc pc = .ok (.getfield idx, 3)) (kk : W p l e R s m args below meth c H locs cells slots Q (F0 m (pc + 3) ls (.ref (ad 7) :: rest))) : W p l e R s m args below meth c H locs cells slots Q (F0 m pc ls (.ref (ad 0) :: rest)) := va_get (D := D) (ci := 6) (C := RX6) (T := TX6) (N := 22) CF.1 CF.2.1 CF.2.2.2.2 (fun w h => List.mem_cons_of_mem _ (in_X6 w h)) CF.2.2.2.1 hK hP 0 rfl rfl 19 (by decide) (CF.2.2.2.2 _ (List.mem_cons_of_mem _ hl)) (fun _ h => h) rfl hdg kk
theorem gm_0_keptAskeds (CF : CallFix p m c cc nL s args (wA y0 cc nL ret0) own) (hK : va_K D vwCl [(cA, .int)] s) (hP : va_P D vwCl (wM ad cA σ) H) (hl : Cond.fieldLink own idx "DugBySaidModel" "keptAskeds" "[I" ∈ wsA) (hdg : decode cc pc = .ok (.getfield idx, 3)) (kk : W p l e R s m args below meth c H locs cells slots Q (F0 m (pc + 3) ls (.ref (ad 8) :: rest))) : W p l e R s m args below meth c H locs cells slots Q (F0 m pc ls (.ref (ad 0) :: rest)) := va_get (D := D) (ci := 6) (C := RX6) (T := TX6) (N := 22) CF.1 CF.2.1 CF.2.2.2.2 (fun w h => List.mem_cons_of_mem _ (in_X6 w h)) CF.2.2.2.1 hK hP 0 rfl rfl 20 (by decide) (CF.2.2.2.2 _ (List.mem_cons_of_mem _ hl)) (fun _ h => h) rfl hdg kk
theorem wm_hash (v : Int64) : (wM ad cA σ).set 0 (ad 0, .inr (6, ([.ref (ad 1), .int (m_pageMany σ), .int (m_endAt σ), .int (m_people σ), .int (m_river σ), .int (m_days σ), .int (m_changes σ), .int (m_hillsRead σ), .ref (ad 2), .ref (ad 3), .int (m_askedMany σ), .ref (ad 4), .ref (ad 5), .int (m_seedNow σ), .int (m_keptHill σ), .int (m_keptDays σ), .int (m_keptChanges σ), .int (m_keptAsked σ), .ref (ad 6), .ref (ad 7), .ref (ad 8), .long (m_hash σ)] : List Value).set 21 (.long v))) = wM ad cA (sm_hash σ v) := rfl
theorem gm_0_hash (CF : CallFix p m c cc nL s args (wA y0 cc nL ret0) own) (hK : va_K D vwCl [(cA, .int)] s) (hP : va_P D vwCl (wM ad cA σ) H) (hl : Cond.fieldLink own idx "DugBySaidModel" "hash" "J" ∈ wsA) (hdg : decode cc pc = .ok (.getfield idx, 3)) (kk : W p l e R s m args below meth c H locs cells slots Q (F0 m (pc + 3) ls (.long (m_hash σ) :: rest))) : W p l e R s m args below meth c H locs cells slots Q (F0 m pc ls (.ref (ad 0) :: rest)) := va_get (D := D) (ci := 6) (C := RX6) (T := TX6) (N := 22) CF.1 CF.2.1 CF.2.2.2.2 (fun w h => List.mem_cons_of_mem _ (in_X6 w h)) CF.2.2.2.1 hK hP 0 rfl rfl 21 (by decide) (CF.2.2.2.2 _ (List.mem_cons_of_mem _ hl)) (fun _ h => h) rfl hdg kk
theorem pm_0_hash (CF : CallFix p m c cc nL s args (wA y0 cc nL ret0) own) (hK : va_K D vwCl [(cA, .int)] s) (hP : va_P D vwCl (wM ad cA σ) H) (hD : va_D A (wM ad cA σ)) (hS : va_S A s.heap H locs) {x : Int64} (hl : Cond.fieldLink own idx "DugBySaidModel" "hash" "J" ∈ wsA) (hdg : decode cc pc = .ok (.putfield idx, 3)) (kk : ∀ (H1 : Heap) (locs1 : List Loc), va_P D vwCl (wM ad cA (sm_hash σ x)) H1 → va_D A (wM ad cA (sm_hash σ x)) → va_S A s.heap H1 locs1 → W p l e R s m args below meth c H1 locs1 cells slots Q (F0 m (pc + 3) ls rest)) : W p l e R s m args below meth c H locs cells slots Q (F0 m pc ls (.long x :: .ref (ad 0) :: rest)) := va_put (ty := .long) (v := .long x) (D := D) (ci := 6) (C := RX6) (T := TX6) (N := 22) CF.1 CF.2.1 CF.2.2.2.2 (fun w h => List.mem_cons_of_mem _ (in_X6 w h)) tyX6 tyX6_ok nmX6 CF.2.2.2.1 hK hP hD hS 0 rfl rfl 21 (by decide) (CF.2.2.2.2 _ (List.mem_cons_of_mem _ hl)) (fun _ h => h) rfl (by decide +kernel) rfl rfl (Nat.le_of_ble_eq_true rfl) hdg (fun H1 locs1 h1 h2 h3 => kk H1 locs1 (Eq.mp (congrArg (fun w => va_P D vwCl w H1) (wm_hash _)) h1) (Eq.mp (congrArg (fun w => va_D A w) (wm_hash _)) h2) h3)
theorem lm_page (hx : p.tables.exec = Jvm.exec) (hb : c.code = cc) (hK : va_K D vwCl [(cA, .int)] s) (hP : va_P D vwCl (wM ad cA σ) H) {i : Int32} (hin : inB i 22) (hdg : decode cc pc = .ok (.iaload, 1)) (kk : W p l e R s m args below meth c H locs cells slots Q (F0 m (pc + 1) ls (.int (m_page σ i.toNatClampNeg) :: rest))) : W p l e R s m args below meth c H locs cells slots Q (F0 m pc ls (.int i :: .ref (ad 1) :: rest)) := va_iald hx hb hK hP 1 0 rfl rfl hin hdg kk
theorem wm_page (v : Nat → Int32) : (wM ad cA σ).set 1 (ad 1, .inl (cA, 22, .inl v)) = wM ad cA (sm_page σ v) := rfl
theorem am_page (hx : p.tables.exec = Jvm.exec) (hb : c.code = cc) (hK : va_K D vwCl [(cA, .int)] s) (hP : va_P D vwCl (wM ad cA σ) H) (hD : va_D A (wM ad cA σ)) (hS : va_S A s.heap H locs) {i x : Int32} (hin : inB i 22) (hdg : decode cc pc = .ok (.iastore, 1)) (kk : ∀ (H1 : Heap) (locs1 : List Loc), va_P D vwCl (wM ad cA (sm_page σ (upd (m_page σ) i.toNatClampNeg x))) H1 → va_D A (wM ad cA (sm_page σ (upd (m_page σ) i.toNatClampNeg x))) → va_S A s.heap H1 locs1 → W p l e R s m args below meth c H1 locs1 cells slots Q (F0 m (pc + 1) ls rest)) : W p l e R s m args below meth c H locs cells slots Q (F0 m pc ls (.int x :: .int i :: .ref (ad 1) :: rest)) := va_iast hx hb hK hP hD hS 1 0 rfl rfl hin hdg (fun H1 locs1 h1 h2 h3 => kk H1 locs1 (Eq.mp (congrArg (fun w => va_P D vwCl w H1) (wm_page _)) h1) (Eq.mp (congrArg (fun w => va_D A w) (wm_page _)) h2) h3)
theorem nm_page (hx : p.tables.exec = Jvm.exec) (hb : c.code = cc) (hK : va_K D vwCl [(cA, .int)] s) (hP : va_P D vwCl (wM ad cA σ) H) (hdg : decode cc pc = .ok (.arraylength, 1)) (kk : W p l e R s m args below meth c H locs cells slots Q (F0 m (pc + 1) ls (.int 22 :: rest))) : W p l e R s m args below meth c H locs cells slots Q (F0 m pc ls (.ref (ad 1) :: rest)) := va_alen hx hb hK hP 1 0 rfl rfl (v := 22) rfl hdg kk
theorem lm_rows (hx : p.tables.exec = Jvm.exec) (hb : c.code = cc) (hK : va_K D vwCl [(cA, .int)] s) (hP : va_P D vwCl (wM ad cA σ) H) {i : Int32} (hin : inB i 12) (hdg : decode cc pc = .ok (.iaload, 1)) (kk : W p l e R s m args below meth c H locs cells slots Q (F0 m (pc + 1) ls (.int (m_rows σ i.toNatClampNeg) :: rest))) : W p l e R s m args below meth c H locs cells slots Q (F0 m pc ls (.int i :: .ref (ad 2) :: rest)) := va_iald hx hb hK hP 2 0 rfl rfl hin hdg kk
theorem wm_rows (v : Nat → Int32) : (wM ad cA σ).set 2 (ad 2, .inl (cA, 12, .inl v)) = wM ad cA (sm_rows σ v) := rfl
theorem am_rows (hx : p.tables.exec = Jvm.exec) (hb : c.code = cc) (hK : va_K D vwCl [(cA, .int)] s) (hP : va_P D vwCl (wM ad cA σ) H) (hD : va_D A (wM ad cA σ)) (hS : va_S A s.heap H locs) {i x : Int32} (hin : inB i 12) (hdg : decode cc pc = .ok (.iastore, 1)) (kk : ∀ (H1 : Heap) (locs1 : List Loc), va_P D vwCl (wM ad cA (sm_rows σ (upd (m_rows σ) i.toNatClampNeg x))) H1 → va_D A (wM ad cA (sm_rows σ (upd (m_rows σ) i.toNatClampNeg x))) → va_S A s.heap H1 locs1 → W p l e R s m args below meth c H1 locs1 cells slots Q (F0 m (pc + 1) ls rest)) : W p l e R s m args below meth c H locs cells slots Q (F0 m pc ls (.int x :: .int i :: .ref (ad 2) :: rest)) := va_iast hx hb hK hP hD hS 2 0 rfl rfl hin hdg (fun H1 locs1 h1 h2 h3 => kk H1 locs1 (Eq.mp (congrArg (fun w => va_P D vwCl w H1) (wm_rows _)) h1) (Eq.mp (congrArg (fun w => va_D A w) (wm_rows _)) h2) h3)
theorem nm_rows (hx : p.tables.exec = Jvm.exec) (hb : c.code = cc) (hK : va_K D vwCl [(cA, .int)] s) (hP : va_P D vwCl (wM ad cA σ) H) (hdg : decode cc pc = .ok (.arraylength, 1)) (kk : W p l e R s m args below meth c H locs cells slots Q (F0 m (pc + 1) ls (.int 12 :: rest))) : W p l e R s m args below meth c H locs cells slots Q (F0 m pc ls (.ref (ad 2) :: rest)) := va_alen hx hb hK hP 2 0 rfl rfl (v := 12) rfl hdg kk
theorem lm_tunnels (hx : p.tables.exec = Jvm.exec) (hb : c.code = cc) (hK : va_K D vwCl [(cA, .int)] s) (hP : va_P D vwCl (wM ad cA σ) H) {i : Int32} (hin : inB i 9) (hdg : decode cc pc = .ok (.iaload, 1)) (kk : W p l e R s m args below meth c H locs cells slots Q (F0 m (pc + 1) ls (.int (m_tunnels σ i.toNatClampNeg) :: rest))) : W p l e R s m args below meth c H locs cells slots Q (F0 m pc ls (.int i :: .ref (ad 3) :: rest)) := va_iald hx hb hK hP 3 0 rfl rfl hin hdg kk
theorem wm_tunnels (v : Nat → Int32) : (wM ad cA σ).set 3 (ad 3, .inl (cA, 9, .inl v)) = wM ad cA (sm_tunnels σ v) := rfl
theorem am_tunnels (hx : p.tables.exec = Jvm.exec) (hb : c.code = cc) (hK : va_K D vwCl [(cA, .int)] s) (hP : va_P D vwCl (wM ad cA σ) H) (hD : va_D A (wM ad cA σ)) (hS : va_S A s.heap H locs) {i x : Int32} (hin : inB i 9) (hdg : decode cc pc = .ok (.iastore, 1)) (kk : ∀ (H1 : Heap) (locs1 : List Loc), va_P D vwCl (wM ad cA (sm_tunnels σ (upd (m_tunnels σ) i.toNatClampNeg x))) H1 → va_D A (wM ad cA (sm_tunnels σ (upd (m_tunnels σ) i.toNatClampNeg x))) → va_S A s.heap H1 locs1 → W p l e R s m args below meth c H1 locs1 cells slots Q (F0 m (pc + 1) ls rest)) : W p l e R s m args below meth c H locs cells slots Q (F0 m pc ls (.int x :: .int i :: .ref (ad 3) :: rest)) := va_iast hx hb hK hP hD hS 3 0 rfl rfl hin hdg (fun H1 locs1 h1 h2 h3 => kk H1 locs1 (Eq.mp (congrArg (fun w => va_P D vwCl w H1) (wm_tunnels _)) h1) (Eq.mp (congrArg (fun w => va_D A w) (wm_tunnels _)) h2) h3)
theorem nm_tunnels (hx : p.tables.exec = Jvm.exec) (hb : c.code = cc) (hK : va_K D vwCl [(cA, .int)] s) (hP : va_P D vwCl (wM ad cA σ) H) (hdg : decode cc pc = .ok (.arraylength, 1)) (kk : W p l e R s m args below meth c H locs cells slots Q (F0 m (pc + 1) ls (.int 9 :: rest))) : W p l e R s m args below meth c H locs cells slots Q (F0 m pc ls (.ref (ad 3) :: rest)) := va_alen hx hb hK hP 3 0 rfl rfl (v := 9) rfl hdg kk
theorem lm_askeds (hx : p.tables.exec = Jvm.exec) (hb : c.code = cc) (hK : va_K D vwCl [(cA, .int)] s) (hP : va_P D vwCl (wM ad cA σ) H) {i : Int32} (hin : inB i 16) (hdg : decode cc pc = .ok (.iaload, 1)) (kk : W p l e R s m args below meth c H locs cells slots Q (F0 m (pc + 1) ls (.int (m_askeds σ i.toNatClampNeg) :: rest))) : W p l e R s m args below meth c H locs cells slots Q (F0 m pc ls (.int i :: .ref (ad 4) :: rest)) := va_iald hx hb hK hP 4 0 rfl rfl hin hdg kk
theorem wm_askeds (v : Nat → Int32) : (wM ad cA σ).set 4 (ad 4, .inl (cA, 16, .inl v)) = wM ad cA (sm_askeds σ v) := rfl
theorem am_askeds (hx : p.tables.exec = Jvm.exec) (hb : c.code = cc) (hK : va_K D vwCl [(cA, .int)] s) (hP : va_P D vwCl (wM ad cA σ) H) (hD : va_D A (wM ad cA σ)) (hS : va_S A s.heap H locs) {i x : Int32} (hin : inB i 16) (hdg : decode cc pc = .ok (.iastore, 1)) (kk : ∀ (H1 : Heap) (locs1 : List Loc), va_P D vwCl (wM ad cA (sm_askeds σ (upd (m_askeds σ) i.toNatClampNeg x))) H1 → va_D A (wM ad cA (sm_askeds σ (upd (m_askeds σ) i.toNatClampNeg x))) → va_S A s.heap H1 locs1 → W p l e R s m args below meth c H1 locs1 cells slots Q (F0 m (pc + 1) ls rest)) : W p l e R s m args below meth c H locs cells slots Q (F0 m pc ls (.int x :: .int i :: .ref (ad 4) :: rest)) := va_iast hx hb hK hP hD hS 4 0 rfl rfl hin hdg (fun H1 locs1 h1 h2 h3 => kk H1 locs1 (Eq.mp (congrArg (fun w => va_P D vwCl w H1) (wm_askeds _)) h1) (Eq.mp (congrArg (fun w => va_D A w) (wm_askeds _)) h2) h3)
theorem nm_askeds (hx : p.tables.exec = Jvm.exec) (hb : c.code = cc) (hK : va_K D vwCl [(cA, .int)] s) (hP : va_P D vwCl (wM ad cA σ) H) (hdg : decode cc pc = .ok (.arraylength, 1)) (kk : W p l e R s m args below meth c H locs cells slots Q (F0 m (pc + 1) ls (.int 16 :: rest))) : W p l e R s m args below meth c H locs cells slots Q (F0 m pc ls (.ref (ad 4) :: rest)) := va_alen hx hb hK hP 4 0 rfl rfl (v := 16) rfl hdg kk
theorem lm_parts (hx : p.tables.exec = Jvm.exec) (hb : c.code = cc) (hK : va_K D vwCl [(cA, .int)] s) (hP : va_P D vwCl (wM ad cA σ) H) {i : Int32} (hin : inB i 8) (hdg : decode cc pc = .ok (.iaload, 1)) (kk : W p l e R s m args below meth c H locs cells slots Q (F0 m (pc + 1) ls (.int (m_parts σ i.toNatClampNeg) :: rest))) : W p l e R s m args below meth c H locs cells slots Q (F0 m pc ls (.int i :: .ref (ad 5) :: rest)) := va_iald hx hb hK hP 5 0 rfl rfl hin hdg kk
theorem wm_parts (v : Nat → Int32) : (wM ad cA σ).set 5 (ad 5, .inl (cA, 8, .inl v)) = wM ad cA (sm_parts σ v) := rfl
theorem am_parts (hx : p.tables.exec = Jvm.exec) (hb : c.code = cc) (hK : va_K D vwCl [(cA, .int)] s) (hP : va_P D vwCl (wM ad cA σ) H) (hD : va_D A (wM ad cA σ)) (hS : va_S A s.heap H locs) {i x : Int32} (hin : inB i 8) (hdg : decode cc pc = .ok (.iastore, 1)) (kk : ∀ (H1 : Heap) (locs1 : List Loc), va_P D vwCl (wM ad cA (sm_parts σ (upd (m_parts σ) i.toNatClampNeg x))) H1 → va_D A (wM ad cA (sm_parts σ (upd (m_parts σ) i.toNatClampNeg x))) → va_S A s.heap H1 locs1 → W p l e R s m args below meth c H1 locs1 cells slots Q (F0 m (pc + 1) ls rest)) : W p l e R s m args below meth c H locs cells slots Q (F0 m pc ls (.int x :: .int i :: .ref (ad 5) :: rest)) := va_iast hx hb hK hP hD hS 5 0 rfl rfl hin hdg (fun H1 locs1 h1 h2 h3 => kk H1 locs1 (Eq.mp (congrArg (fun w => va_P D vwCl w H1) (wm_parts _)) h1) (Eq.mp (congrArg (fun w => va_D A w) (wm_parts _)) h2) h3)
theorem nm_parts (hx : p.tables.exec = Jvm.exec) (hb : c.code = cc) (hK : va_K D vwCl [(cA, .int)] s) (hP : va_P D vwCl (wM ad cA σ) H) (hdg : decode cc pc = .ok (.arraylength, 1)) (kk : W p l e R s m args below meth c H locs cells slots Q (F0 m (pc + 1) ls (.int 8 :: rest))) : W p l e R s m args below meth c H locs cells slots Q (F0 m pc ls (.ref (ad 5) :: rest)) := va_alen hx hb hK hP 5 0 rfl rfl (v := 8) rfl hdg kk
theorem lm_keptRows (hx : p.tables.exec = Jvm.exec) (hb : c.code = cc) (hK : va_K D vwCl [(cA, .int)] s) (hP : va_P D vwCl (wM ad cA σ) H) {i : Int32} (hin : inB i 12) (hdg : decode cc pc = .ok (.iaload, 1)) (kk : W p l e R s m args below meth c H locs cells slots Q (F0 m (pc + 1) ls (.int (m_keptRows σ i.toNatClampNeg) :: rest))) : W p l e R s m args below meth c H locs cells slots Q (F0 m pc ls (.int i :: .ref (ad 6) :: rest)) := va_iald hx hb hK hP 6 0 rfl rfl hin hdg kk
theorem wm_keptRows (v : Nat → Int32) : (wM ad cA σ).set 6 (ad 6, .inl (cA, 12, .inl v)) = wM ad cA (sm_keptRows σ v) := rfl
theorem am_keptRows (hx : p.tables.exec = Jvm.exec) (hb : c.code = cc) (hK : va_K D vwCl [(cA, .int)] s) (hP : va_P D vwCl (wM ad cA σ) H) (hD : va_D A (wM ad cA σ)) (hS : va_S A s.heap H locs) {i x : Int32} (hin : inB i 12) (hdg : decode cc pc = .ok (.iastore, 1)) (kk : ∀ (H1 : Heap) (locs1 : List Loc), va_P D vwCl (wM ad cA (sm_keptRows σ (upd (m_keptRows σ) i.toNatClampNeg x))) H1 → va_D A (wM ad cA (sm_keptRows σ (upd (m_keptRows σ) i.toNatClampNeg x))) → va_S A s.heap H1 locs1 → W p l e R s m args below meth c H1 locs1 cells slots Q (F0 m (pc + 1) ls rest)) : W p l e R s m args below meth c H locs cells slots Q (F0 m pc ls (.int x :: .int i :: .ref (ad 6) :: rest)) := va_iast hx hb hK hP hD hS 6 0 rfl rfl hin hdg (fun H1 locs1 h1 h2 h3 => kk H1 locs1 (Eq.mp (congrArg (fun w => va_P D vwCl w H1) (wm_keptRows _)) h1) (Eq.mp (congrArg (fun w => va_D A w) (wm_keptRows _)) h2) h3)
theorem nm_keptRows (hx : p.tables.exec = Jvm.exec) (hb : c.code = cc) (hK : va_K D vwCl [(cA, .int)] s) (hP : va_P D vwCl (wM ad cA σ) H) (hdg : decode cc pc = .ok (.arraylength, 1)) (kk : W p l e R s m args below meth c H locs cells slots Q (F0 m (pc + 1) ls (.int 12 :: rest))) : W p l e R s m args below meth c H locs cells slots Q (F0 m pc ls (.ref (ad 6) :: rest)) := va_alen hx hb hK hP 6 0 rfl rfl (v := 12) rfl hdg kk
theorem lm_keptTunnels (hx : p.tables.exec = Jvm.exec) (hb : c.code = cc) (hK : va_K D vwCl [(cA, .int)] s) (hP : va_P D vwCl (wM ad cA σ) H) {i : Int32} (hin : inB i 9) (hdg : decode cc pc = .ok (.iaload, 1)) (kk : W p l e R s m args below meth c H locs cells slots Q (F0 m (pc + 1) ls (.int (m_keptTunnels σ i.toNatClampNeg) :: rest))) : W p l e R s m args below meth c H locs cells slots Q (F0 m pc ls (.int i :: .ref (ad 7) :: rest)) := va_iald hx hb hK hP 7 0 rfl rfl hin hdg kk
theorem wm_keptTunnels (v : Nat → Int32) : (wM ad cA σ).set 7 (ad 7, .inl (cA, 9, .inl v)) = wM ad cA (sm_keptTunnels σ v) := rfl
theorem am_keptTunnels (hx : p.tables.exec = Jvm.exec) (hb : c.code = cc) (hK : va_K D vwCl [(cA, .int)] s) (hP : va_P D vwCl (wM ad cA σ) H) (hD : va_D A (wM ad cA σ)) (hS : va_S A s.heap H locs) {i x : Int32} (hin : inB i 9) (hdg : decode cc pc = .ok (.iastore, 1)) (kk : ∀ (H1 : Heap) (locs1 : List Loc), va_P D vwCl (wM ad cA (sm_keptTunnels σ (upd (m_keptTunnels σ) i.toNatClampNeg x))) H1 → va_D A (wM ad cA (sm_keptTunnels σ (upd (m_keptTunnels σ) i.toNatClampNeg x))) → va_S A s.heap H1 locs1 → W p l e R s m args below meth c H1 locs1 cells slots Q (F0 m (pc + 1) ls rest)) : W p l e R s m args below meth c H locs cells slots Q (F0 m pc ls (.int x :: .int i :: .ref (ad 7) :: rest)) := va_iast hx hb hK hP hD hS 7 0 rfl rfl hin hdg (fun H1 locs1 h1 h2 h3 => kk H1 locs1 (Eq.mp (congrArg (fun w => va_P D vwCl w H1) (wm_keptTunnels _)) h1) (Eq.mp (congrArg (fun w => va_D A w) (wm_keptTunnels _)) h2) h3)
theorem nm_keptTunnels (hx : p.tables.exec = Jvm.exec) (hb : c.code = cc) (hK : va_K D vwCl [(cA, .int)] s) (hP : va_P D vwCl (wM ad cA σ) H) (hdg : decode cc pc = .ok (.arraylength, 1)) (kk : W p l e R s m args below meth c H locs cells slots Q (F0 m (pc + 1) ls (.int 9 :: rest))) : W p l e R s m args below meth c H locs cells slots Q (F0 m pc ls (.ref (ad 7) :: rest)) := va_alen hx hb hK hP 7 0 rfl rfl (v := 9) rfl hdg kk
theorem lm_keptAskeds (hx : p.tables.exec = Jvm.exec) (hb : c.code = cc) (hK : va_K D vwCl [(cA, .int)] s) (hP : va_P D vwCl (wM ad cA σ) H) {i : Int32} (hin : inB i 16) (hdg : decode cc pc = .ok (.iaload, 1)) (kk : W p l e R s m args below meth c H locs cells slots Q (F0 m (pc + 1) ls (.int (m_keptAskeds σ i.toNatClampNeg) :: rest))) : W p l e R s m args below meth c H locs cells slots Q (F0 m pc ls (.int i :: .ref (ad 8) :: rest)) := va_iald hx hb hK hP 8 0 rfl rfl hin hdg kk
theorem wm_keptAskeds (v : Nat → Int32) : (wM ad cA σ).set 8 (ad 8, .inl (cA, 16, .inl v)) = wM ad cA (sm_keptAskeds σ v) := rfl
theorem am_keptAskeds (hx : p.tables.exec = Jvm.exec) (hb : c.code = cc) (hK : va_K D vwCl [(cA, .int)] s) (hP : va_P D vwCl (wM ad cA σ) H) (hD : va_D A (wM ad cA σ)) (hS : va_S A s.heap H locs) {i x : Int32} (hin : inB i 16) (hdg : decode cc pc = .ok (.iastore, 1)) (kk : ∀ (H1 : Heap) (locs1 : List Loc), va_P D vwCl (wM ad cA (sm_keptAskeds σ (upd (m_keptAskeds σ) i.toNatClampNeg x))) H1 → va_D A (wM ad cA (sm_keptAskeds σ (upd (m_keptAskeds σ) i.toNatClampNeg x))) → va_S A s.heap H1 locs1 → W p l e R s m args below meth c H1 locs1 cells slots Q (F0 m (pc + 1) ls rest)) : W p l e R s m args below meth c H locs cells slots Q (F0 m pc ls (.int x :: .int i :: .ref (ad 8) :: rest)) := va_iast hx hb hK hP hD hS 8 0 rfl rfl hin hdg (fun H1 locs1 h1 h2 h3 => kk H1 locs1 (Eq.mp (congrArg (fun w => va_P D vwCl w H1) (wm_keptAskeds _)) h1) (Eq.mp (congrArg (fun w => va_D A w) (wm_keptAskeds _)) h2) h3)
theorem nm_keptAskeds (hx : p.tables.exec = Jvm.exec) (hb : c.code = cc) (hK : va_K D vwCl [(cA, .int)] s) (hP : va_P D vwCl (wM ad cA σ) H) (hdg : decode cc pc = .ok (.arraylength, 1)) (kk : W p l e R s m args below meth c H locs cells slots Q (F0 m (pc + 1) ls (.int 16 :: rest))) : W p l e R s m args below meth c H locs cells slots Q (F0 m pc ls (.ref (ad 8) :: rest)) := va_alen hx hb hK hP 8 0 rfl rfl (v := 16) rfl hdg kk
end ACCm
end
