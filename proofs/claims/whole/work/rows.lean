section
-- ===== PART A: goes FIRST, ahead of the names: the tables' words, and 'selects' of the private methods out of them =====
/-- a private method of a class that the tables say can be made, by its rows of tables_1 -/
def lw_okq (q : MethodName × Nat) : Prop := (q.1.cls ≠ "java/lang/invoke/MethodHandle" ∧ q.1.cls ≠ "java/lang/invoke/VarHandle") ∧ Cond.instantiable q.1.cls q.2 ∈ tables_1 ∧ Cond.privateMethod q.1 ∈ tables_1 ∧ Cond.instanceMethod q.1 ∈ tables_1
theorem lw_p0 : lw_okq (⟨"DugBySaid$Page", "fits", "(I)Z"⟩, 2) := ⟨⟨by decide +kernel, by decide +kernel⟩, List.mem_of_getElem? (i := 25) (by decide +kernel), List.mem_of_getElem? (i := 187) (by decide +kernel), List.mem_of_getElem? (i := 188) (by decide +kernel)⟩
theorem lw_p1 : lw_okq (⟨"DugBySaid", "point", "(II)V"⟩, 8) := ⟨⟨by decide +kernel, by decide +kernel⟩, List.mem_of_getElem? (i := 17) (by decide +kernel), List.mem_of_getElem? (i := 328) (by decide +kernel), List.mem_of_getElem? (i := 329) (by decide +kernel)⟩
theorem lw_p2 : lw_okq (⟨"DugBySaid", "isTunnel", "(I)Z"⟩, 8) := ⟨⟨by decide +kernel, by decide +kernel⟩, List.mem_of_getElem? (i := 17) (by decide +kernel), List.mem_of_getElem? (i := 410) (by decide +kernel), List.mem_of_getElem? (i := 411) (by decide +kernel)⟩
theorem lw_p3 : lw_okq (⟨"DugBySaid", "lengthOf", "(I)I"⟩, 8) := ⟨⟨by decide +kernel, by decide +kernel⟩, List.mem_of_getElem? (i := 17) (by decide +kernel), List.mem_of_getElem? (i := 418) (by decide +kernel), List.mem_of_getElem? (i := 419) (by decide +kernel)⟩
theorem lw_p4 : lw_okq (⟨"DugBySaid", "fewestToTell", "(I)I"⟩, 8) := ⟨⟨by decide +kernel, by decide +kernel⟩, List.mem_of_getElem? (i := 17) (by decide +kernel), List.mem_of_getElem? (i := 447) (by decide +kernel), List.mem_of_getElem? (i := 448) (by decide +kernel)⟩
theorem lw_p5 : lw_okq (⟨"DugBySaid$Riddle", "agrees", "(I)Z"⟩, 4) := ⟨⟨by decide +kernel, by decide +kernel⟩, List.mem_of_getElem? (i := 119) (by decide +kernel), List.mem_of_getElem? (i := 471) (by decide +kernel), List.mem_of_getElem? (i := 472) (by decide +kernel)⟩
theorem lw_p6 : lw_okq (⟨"DugBySaid$Riddle", "leftAtWorst", "(II)I"⟩, 4) := ⟨⟨by decide +kernel, by decide +kernel⟩, List.mem_of_getElem? (i := 119) (by decide +kernel), List.mem_of_getElem? (i := 484) (by decide +kernel), List.mem_of_getElem? (i := 485) (by decide +kernel)⟩
theorem lw_p7 : lw_okq (⟨"DugBySaid", "lengthOfAll", "()I"⟩, 8) := ⟨⟨by decide +kernel, by decide +kernel⟩, List.mem_of_getElem? (i := 17) (by decide +kernel), List.mem_of_getElem? (i := 520) (by decide +kernel), List.mem_of_getElem? (i := 521) (by decide +kernel)⟩
theorem lw_p8 : lw_okq (⟨"DugBySaid", "withPeople", "(J)J"⟩, 8) := ⟨⟨by decide +kernel, by decide +kernel⟩, List.mem_of_getElem? (i := 17) (by decide +kernel), List.mem_of_getElem? (i := 534) (by decide +kernel), List.mem_of_getElem? (i := 535) (by decide +kernel)⟩
theorem lw_p9 : lw_okq (⟨"DugBySaid", "withTunnels", "(J)J"⟩, 8) := ⟨⟨by decide +kernel, by decide +kernel⟩, List.mem_of_getElem? (i := 17) (by decide +kernel), List.mem_of_getElem? (i := 543) (by decide +kernel), List.mem_of_getElem? (i := 544) (by decide +kernel)⟩
theorem lw_p10 : lw_okq (⟨"DugBySaid", "withLetters", "(J)J"⟩, 8) := ⟨⟨by decide +kernel, by decide +kernel⟩, List.mem_of_getElem? (i := 17) (by decide +kernel), List.mem_of_getElem? (i := 551) (by decide +kernel), List.mem_of_getElem? (i := 552) (by decide +kernel)⟩
theorem lw_p11 : lw_okq (⟨"DugBySaidModel", "faultOf", "()I"⟩, 22) := ⟨⟨by decide +kernel, by decide +kernel⟩, List.mem_of_getElem? (i := 557) (by decide +kernel), List.mem_of_getElem? (i := 646) (by decide +kernel), List.mem_of_getElem? (i := 647) (by decide +kernel)⟩
theorem lw_p12 : lw_okq (⟨"DugBySaidModel", "isGood", "(I)Z"⟩, 22) := ⟨⟨by decide +kernel, by decide +kernel⟩, List.mem_of_getElem? (i := 557) (by decide +kernel), List.mem_of_getElem? (i := 650) (by decide +kernel), List.mem_of_getElem? (i := 651) (by decide +kernel)⟩
theorem lw_p13 : lw_okq (⟨"DugBySaidModel", "isPerson", "(I)Z"⟩, 22) := ⟨⟨by decide +kernel, by decide +kernel⟩, List.mem_of_getElem? (i := 557) (by decide +kernel), List.mem_of_getElem? (i := 668) (by decide +kernel), List.mem_of_getElem? (i := 669) (by decide +kernel)⟩
theorem lw_p14 : lw_okq (⟨"DugBySaidModel", "tellPerson", "(II)I"⟩, 22) := ⟨⟨by decide +kernel, by decide +kernel⟩, List.mem_of_getElem? (i := 557) (by decide +kernel), List.mem_of_getElem? (i := 672) (by decide +kernel), List.mem_of_getElem? (i := 673) (by decide +kernel)⟩
theorem lw_p15 : lw_okq (⟨"DugBySaidModel", "tellsOf", "(I)I"⟩, 22) := ⟨⟨by decide +kernel, by decide +kernel⟩, List.mem_of_getElem? (i := 557) (by decide +kernel), List.mem_of_getElem? (i := 676) (by decide +kernel), List.mem_of_getElem? (i := 677) (by decide +kernel)⟩
def lw_privs_1 : List (MethodName × Nat) := [(⟨"DugBySaid$Page", "fits", "(I)Z"⟩, 2), (⟨"DugBySaid", "point", "(II)V"⟩, 8), (⟨"DugBySaid", "isTunnel", "(I)Z"⟩, 8), (⟨"DugBySaid", "lengthOf", "(I)I"⟩, 8), (⟨"DugBySaid", "fewestToTell", "(I)I"⟩, 8), (⟨"DugBySaid$Riddle", "agrees", "(I)Z"⟩, 4), (⟨"DugBySaid$Riddle", "leftAtWorst", "(II)I"⟩, 4), (⟨"DugBySaid", "lengthOfAll", "()I"⟩, 8), (⟨"DugBySaid", "withPeople", "(J)J"⟩, 8), (⟨"DugBySaid", "withTunnels", "(J)J"⟩, 8), (⟨"DugBySaid", "withLetters", "(J)J"⟩, 8), (⟨"DugBySaidModel", "faultOf", "()I"⟩, 22), (⟨"DugBySaidModel", "isGood", "(I)Z"⟩, 22), (⟨"DugBySaidModel", "isPerson", "(I)Z"⟩, 22), (⟨"DugBySaidModel", "tellPerson", "(II)I"⟩, 22), (⟨"DugBySaidModel", "tellsOf", "(I)I"⟩, 22)]
theorem lw_r1 : ∀ q ∈ lw_privs_1, lw_okq q := List.forall_mem_cons.mpr ⟨lw_p0, List.forall_mem_cons.mpr ⟨lw_p1, List.forall_mem_cons.mpr ⟨lw_p2, List.forall_mem_cons.mpr ⟨lw_p3, List.forall_mem_cons.mpr ⟨lw_p4, List.forall_mem_cons.mpr ⟨lw_p5, List.forall_mem_cons.mpr ⟨lw_p6, List.forall_mem_cons.mpr ⟨lw_p7, List.forall_mem_cons.mpr ⟨lw_p8, List.forall_mem_cons.mpr ⟨lw_p9, List.forall_mem_cons.mpr ⟨lw_p10, List.forall_mem_cons.mpr ⟨lw_p11, List.forall_mem_cons.mpr ⟨lw_p12, List.forall_mem_cons.mpr ⟨lw_p13, List.forall_mem_cons.mpr ⟨lw_p14, List.forall_mem_cons.mpr ⟨lw_p15, fun _ h => absurd h List.not_mem_nil⟩⟩⟩⟩⟩⟩⟩⟩⟩⟩⟩⟩⟩⟩⟩⟩
theorem lw_p16 : lw_okq (⟨"DugBySaidModel", "tunnelsOf", "(I)I"⟩, 22) := ⟨⟨by decide +kernel, by decide +kernel⟩, List.mem_of_getElem? (i := 557) (by decide +kernel), List.mem_of_getElem? (i := 680) (by decide +kernel), List.mem_of_getElem? (i := 681) (by decide +kernel)⟩
theorem lw_p17 : lw_okq (⟨"DugBySaidModel", "endsOf", "(I)I"⟩, 22) := ⟨⟨by decide +kernel, by decide +kernel⟩, List.mem_of_getElem? (i := 557) (by decide +kernel), List.mem_of_getElem? (i := 684) (by decide +kernel), List.mem_of_getElem? (i := 685) (by decide +kernel)⟩
theorem lw_p18 : lw_okq (⟨"DugBySaidModel", "endBy", "(II)I"⟩, 22) := ⟨⟨by decide +kernel, by decide +kernel⟩, List.mem_of_getElem? (i := 557) (by decide +kernel), List.mem_of_getElem? (i := 688) (by decide +kernel), List.mem_of_getElem? (i := 689) (by decide +kernel)⟩
theorem lw_p19 : lw_okq (⟨"DugBySaidModel", "toldBy", "(I)I"⟩, 22) := ⟨⟨by decide +kernel, by decide +kernel⟩, List.mem_of_getElem? (i := 557) (by decide +kernel), List.mem_of_getElem? (i := 692) (by decide +kernel), List.mem_of_getElem? (i := 693) (by decide +kernel)⟩
theorem lw_p20 : lw_okq (⟨"DugBySaidModel", "lengthBy", "(II)I"⟩, 22) := ⟨⟨by decide +kernel, by decide +kernel⟩, List.mem_of_getElem? (i := 557) (by decide +kernel), List.mem_of_getElem? (i := 696) (by decide +kernel), List.mem_of_getElem? (i := 697) (by decide +kernel)⟩
theorem lw_p21 : lw_okq (⟨"DugBySaidModel", "lastsOf", "(I)I"⟩, 22) := ⟨⟨by decide +kernel, by decide +kernel⟩, List.mem_of_getElem? (i := 557) (by decide +kernel), List.mem_of_getElem? (i := 703) (by decide +kernel), List.mem_of_getElem? (i := 704) (by decide +kernel)⟩
theorem lw_p22 : lw_okq (⟨"DugBySaidModel", "dayOf", "(II)I"⟩, 22) := ⟨⟨by decide +kernel, by decide +kernel⟩, List.mem_of_getElem? (i := 557) (by decide +kernel), List.mem_of_getElem? (i := 707) (by decide +kernel), List.mem_of_getElem? (i := 708) (by decide +kernel)⟩
theorem lw_p23 : lw_okq (⟨"DugBySaidModel", "isTunnel", "(I)Z"⟩, 22) := ⟨⟨by decide +kernel, by decide +kernel⟩, List.mem_of_getElem? (i := 557) (by decide +kernel), List.mem_of_getElem? (i := 724) (by decide +kernel), List.mem_of_getElem? (i := 725) (by decide +kernel)⟩
theorem lw_p24 : lw_okq (⟨"DugBySaidModel", "lacks", "()Z"⟩, 22) := ⟨⟨by decide +kernel, by decide +kernel⟩, List.mem_of_getElem? (i := 557) (by decide +kernel), List.mem_of_getElem? (i := 728) (by decide +kernel), List.mem_of_getElem? (i := 729) (by decide +kernel)⟩
theorem lw_p25 : lw_okq (⟨"DugBySaidModel", "lengthOf", "(I)I"⟩, 22) := ⟨⟨by decide +kernel, by decide +kernel⟩, List.mem_of_getElem? (i := 557) (by decide +kernel), List.mem_of_getElem? (i := 733) (by decide +kernel), List.mem_of_getElem? (i := 734) (by decide +kernel)⟩
theorem lw_p26 : lw_okq (⟨"DugBySaidModel", "tellTunnel", "(II)I"⟩, 22) := ⟨⟨by decide +kernel, by decide +kernel⟩, List.mem_of_getElem? (i := 557) (by decide +kernel), List.mem_of_getElem? (i := 752) (by decide +kernel), List.mem_of_getElem? (i := 753) (by decide +kernel)⟩
theorem lw_p27 : lw_okq (⟨"DugBySaidModel", "aimOf", "(II)I"⟩, 22) := ⟨⟨by decide +kernel, by decide +kernel⟩, List.mem_of_getElem? (i := 557) (by decide +kernel), List.mem_of_getElem? (i := 762) (by decide +kernel), List.mem_of_getElem? (i := 763) (by decide +kernel)⟩
theorem lw_p28 : lw_okq (⟨"DugBySaidModel", "beganOf", "()I"⟩, 22) := ⟨⟨by decide +kernel, by decide +kernel⟩, List.mem_of_getElem? (i := 557) (by decide +kernel), List.mem_of_getElem? (i := 780) (by decide +kernel), List.mem_of_getElem? (i := 781) (by decide +kernel)⟩
theorem lw_p29 : lw_okq (⟨"DugBySaidModel", "askOf", "()I"⟩, 22) := ⟨⟨by decide +kernel, by decide +kernel⟩, List.mem_of_getElem? (i := 557) (by decide +kernel), List.mem_of_getElem? (i := 788) (by decide +kernel), List.mem_of_getElem? (i := 789) (by decide +kernel)⟩
theorem lw_p30 : lw_okq (⟨"DugBySaidModel", "draw", "(I)I"⟩, 22) := ⟨⟨by decide +kernel, by decide +kernel⟩, List.mem_of_getElem? (i := 557) (by decide +kernel), List.mem_of_getElem? (i := 797) (by decide +kernel), List.mem_of_getElem? (i := 798) (by decide +kernel)⟩
theorem lw_p31 : lw_okq (⟨"DugBySaidModel", "countOf", "(I)I"⟩, 22) := ⟨⟨by decide +kernel, by decide +kernel⟩, List.mem_of_getElem? (i := 557) (by decide +kernel), List.mem_of_getElem? (i := 820) (by decide +kernel), List.mem_of_getElem? (i := 821) (by decide +kernel)⟩
def lw_privs_2 : List (MethodName × Nat) := [(⟨"DugBySaidModel", "tunnelsOf", "(I)I"⟩, 22), (⟨"DugBySaidModel", "endsOf", "(I)I"⟩, 22), (⟨"DugBySaidModel", "endBy", "(II)I"⟩, 22), (⟨"DugBySaidModel", "toldBy", "(I)I"⟩, 22), (⟨"DugBySaidModel", "lengthBy", "(II)I"⟩, 22), (⟨"DugBySaidModel", "lastsOf", "(I)I"⟩, 22), (⟨"DugBySaidModel", "dayOf", "(II)I"⟩, 22), (⟨"DugBySaidModel", "isTunnel", "(I)Z"⟩, 22), (⟨"DugBySaidModel", "lacks", "()Z"⟩, 22), (⟨"DugBySaidModel", "lengthOf", "(I)I"⟩, 22), (⟨"DugBySaidModel", "tellTunnel", "(II)I"⟩, 22), (⟨"DugBySaidModel", "aimOf", "(II)I"⟩, 22), (⟨"DugBySaidModel", "beganOf", "()I"⟩, 22), (⟨"DugBySaidModel", "askOf", "()I"⟩, 22), (⟨"DugBySaidModel", "draw", "(I)I"⟩, 22), (⟨"DugBySaidModel", "countOf", "(I)I"⟩, 22)]
theorem lw_r2 : ∀ q ∈ lw_privs_2, lw_okq q := List.forall_mem_cons.mpr ⟨lw_p16, List.forall_mem_cons.mpr ⟨lw_p17, List.forall_mem_cons.mpr ⟨lw_p18, List.forall_mem_cons.mpr ⟨lw_p19, List.forall_mem_cons.mpr ⟨lw_p20, List.forall_mem_cons.mpr ⟨lw_p21, List.forall_mem_cons.mpr ⟨lw_p22, List.forall_mem_cons.mpr ⟨lw_p23, List.forall_mem_cons.mpr ⟨lw_p24, List.forall_mem_cons.mpr ⟨lw_p25, List.forall_mem_cons.mpr ⟨lw_p26, List.forall_mem_cons.mpr ⟨lw_p27, List.forall_mem_cons.mpr ⟨lw_p28, List.forall_mem_cons.mpr ⟨lw_p29, List.forall_mem_cons.mpr ⟨lw_p30, List.forall_mem_cons.mpr ⟨lw_p31, fun _ h => absurd h List.not_mem_nil⟩⟩⟩⟩⟩⟩⟩⟩⟩⟩⟩⟩⟩⟩⟩⟩
theorem lw_p32 : lw_okq (⟨"DugBySaidModel", "lengthAll", "()I"⟩, 22) := ⟨⟨by decide +kernel, by decide +kernel⟩, List.mem_of_getElem? (i := 557) (by decide +kernel), List.mem_of_getElem? (i := 824) (by decide +kernel), List.mem_of_getElem? (i := 825) (by decide +kernel)⟩
theorem lw_p33 : lw_okq (⟨"DugBySaidModel", "heardAll", "()I"⟩, 22) := ⟨⟨by decide +kernel, by decide +kernel⟩, List.mem_of_getElem? (i := 557) (by decide +kernel), List.mem_of_getElem? (i := 828) (by decide +kernel), List.mem_of_getElem? (i := 829) (by decide +kernel)⟩
theorem lw_p34 : lw_okq (⟨"DugBySaidModel", "say", "(J)V"⟩, 22) := ⟨⟨by decide +kernel, by decide +kernel⟩, List.mem_of_getElem? (i := 557) (by decide +kernel), List.mem_of_getElem? (i := 837) (by decide +kernel), List.mem_of_getElem? (i := 838) (by decide +kernel)⟩
theorem lw_p35 : lw_okq (⟨"DugBySaidModel", "sayHill", "()V"⟩, 22) := ⟨⟨by decide +kernel, by decide +kernel⟩, List.mem_of_getElem? (i := 557) (by decide +kernel), List.mem_of_getElem? (i := 842) (by decide +kernel), List.mem_of_getElem? (i := 843) (by decide +kernel)⟩
def lw_privs_3 : List (MethodName × Nat) := [(⟨"DugBySaidModel", "lengthAll", "()I"⟩, 22), (⟨"DugBySaidModel", "heardAll", "()I"⟩, 22), (⟨"DugBySaidModel", "say", "(J)V"⟩, 22), (⟨"DugBySaidModel", "sayHill", "()V"⟩, 22)]
theorem lw_r3 : ∀ q ∈ lw_privs_3, lw_okq q := List.forall_mem_cons.mpr ⟨lw_p32, List.forall_mem_cons.mpr ⟨lw_p33, List.forall_mem_cons.mpr ⟨lw_p34, List.forall_mem_cons.mpr ⟨lw_p35, fun _ h => absurd h List.not_mem_nil⟩⟩⟩⟩
def lw_privs : List (MethodName × Nat) := lw_privs_1 ++ (lw_privs_2 ++ (lw_privs_3))
def lw_tbl : List Cond := k2_sels lw_privs ++ tables_1
theorem lw_privs_ok : ∀ q ∈ lw_privs, lw_okq q := by
  show ∀ q ∈ lw_privs_1 ++ (lw_privs_2 ++ (lw_privs_3)), lw_okq q
  exact List.forall_mem_append.mpr ⟨lw_r1, List.forall_mem_append.mpr ⟨lw_r2, lw_r3⟩⟩
end
section
/-! ===== BEGIN words of one list among another's, by their places ===== -/
theorem goodIn_r {big : List Cond} (ws : List Cond) (ps : List Nat) (hp : ws = ps.filterMap (fun i => big[i]?)) (h : ws.all goodWord = true) : GoodIn big ws := by
  intro w hw
  have h1 := List.all_eq_true.mp h w hw
  rw [hp] at hw
  obtain ⟨i, -, hi⟩ := List.mem_filterMap.mp hw
  have hm : w ∈ big := by first | exact List.mem_of_getElem? hi | exact List.getElem?_mem hi
  exact ⟨hm, good_of_word h1⟩
theorem goodIn_app {big a b : List Cond} (ha : GoodIn big a) (hb : GoodIn big b) : GoodIn big (a ++ b) := fun w h => (List.mem_append.mp h).elim (ha w) (hb w)
theorem goodIn_ca {big a b : List Cond} {c : Cond} (ha : GoodIn big (c :: a)) (hb : GoodIn big b) : GoodIn big (c :: (a ++ b)) := fun w h => (List.mem_cons.mp h).elim (fun e => ha w (List.mem_cons.mpr (Or.inl e))) (fun h => (List.mem_append.mp h).elim (fun h => ha w (List.mem_cons.mpr (Or.inr h))) (hb w))
theorem goodIn_sub {big ws : List Cond} (hm : ∀ w ∈ ws, w ∈ big) (h : ws.all goodWord = true) : GoodIn big ws := fun w hw => ⟨hm w hw, good_of_word (List.all_eq_true.mp h w hw)⟩
/-! ===== END ===== -/

/-! ===== BEGIN printed: names, fields, word lists, decode rows ===== -/
def RX0 : String := "DugBySaid$Hill"
def TX0 : u_T := fun k => match k with
  | 0 => ("DugBySaid$Hill", "kinds", "[I", true)
  | 1 => ("DugBySaid$Hill", "people", "I", false)
  | _ => ("DugBySaid$Hill", "river", "I", false)
def tyX0 : Nat → FieldType := fun k => match k with
  | 0 => .array .int
  | 1 => .int
  | _ => .int
abbrev wsX00 : List Cond := u_ws RX0 TX0 3
theorem nmX0 : ∀ a, a < 3 → ∀ b, b < 3 → a ≠ b → (TX0 a).2.1 ≠ (TX0 b).2.1 := by decide +kernel
theorem tyX0_ok : ∀ k, k < 3 → parseFieldDescriptor (TX0 k).2.2.1 = some (tyX0 k) := by decide +kernel
abbrev cX0_init : ByteArray := prog_2_method_1_code
def yX0_init : MethodName := ⟨RX0, "<init>", "()V"⟩
abbrev cX0_read : ByteArray := prog_2_method_2_code
def yX0_read : MethodName := ⟨RX0, "read", "(LDugBySaid$Page;)V"⟩
abbrev cX0_isThere : ByteArray := prog_2_method_3_code
def yX0_isThere : MethodName := ⟨RX0, "isThere", "()Z"⟩
abbrev cX0_has : ByteArray := prog_2_method_4_code
def yX0_has : MethodName := ⟨RX0, "has", "(I)Z"⟩
abbrev cX0_kindOf : ByteArray := prog_2_method_5_code
def yX0_kindOf : MethodName := ⟨RX0, "kindOf", "(I)I"⟩
abbrev cX0_listeners : ByteArray := prog_2_method_6_code
def yX0_listeners : MethodName := ⟨RX0, "listeners", "(II)I"⟩
abbrev cX0_length : ByteArray := prog_2_method_7_code
def yX0_length : MethodName := ⟨RX0, "length", "(II)I"⟩
abbrev cX0_yardsBy : ByteArray := prog_2_method_8_code
def yX0_yardsBy : MethodName := ⟨RX0, "yardsBy", "(I)I"⟩
def RX1 : String := "DugBySaid$Page"
def TX1 : u_T := fun k => match k with
  | 0 => ("DugBySaid$Page", "codes", "[I", true)
  | _ => ("DugBySaid$Page", "length", "I", false)
def tyX1 : Nat → FieldType := fun k => match k with
  | 0 => .array .int
  | _ => .int
abbrev wsX10 : List Cond := u_ws RX1 TX1 2
theorem nmX1 : ∀ a, a < 2 → ∀ b, b < 2 → a ≠ b → (TX1 a).2.1 ≠ (TX1 b).2.1 := by decide +kernel
theorem tyX1_ok : ∀ k, k < 2 → parseFieldDescriptor (TX1 k).2.2.1 = some (tyX1 k) := by decide +kernel
abbrev cX1_init : ByteArray := prog_3_method_1_code
def yX1_init : MethodName := ⟨RX1, "<init>", "()V"⟩
abbrev cX1_put : ByteArray := prog_3_method_2_code
def yX1_put : MethodName := ⟨RX1, "put", "(I)Z"⟩
abbrev cX1_clear : ByteArray := prog_3_method_3_code
def yX1_clear : MethodName := ⟨RX1, "clear", "()V"⟩
abbrev cX1_firstFault : ByteArray := prog_3_method_4_code
def yX1_firstFault : MethodName := ⟨RX1, "firstFault", "()I"⟩
abbrev cX1_isHill : ByteArray := prog_3_method_5_code
def yX1_isHill : MethodName := ⟨RX1, "isHill", "()Z"⟩
abbrev cX1_peopleWritten : ByteArray := prog_3_method_6_code
def yX1_peopleWritten : MethodName := ⟨RX1, "peopleWritten", "()I"⟩
abbrev cX1_kindWritten : ByteArray := prog_3_method_7_code
def yX1_kindWritten : MethodName := ⟨RX1, "kindWritten", "(I)I"⟩
abbrev cX1_nextWritten : ByteArray := prog_3_method_8_code
def yX1_nextWritten : MethodName := ⟨RX1, "nextWritten", "(I)I"⟩
abbrev cX1_riverWritten : ByteArray := prog_3_method_9_code
def yX1_riverWritten : MethodName := ⟨RX1, "riverWritten", "()I"⟩
abbrev cX1_codeAt : ByteArray := prog_3_method_10_code
def yX1_codeAt : MethodName := ⟨RX1, "codeAt", "(I)I"⟩
abbrev cX1_fits : ByteArray := prog_3_method_11_code
def yX1_fits : MethodName := ⟨RX1, "fits", "(I)Z"⟩
abbrev cX1_kindOfLetter : ByteArray := prog_3_method_12_code
def yX1_kindOfLetter : MethodName := ⟨RX1, "kindOfLetter", "(I)I"⟩
def RX2 : String := "DugBySaid$Past"
def TX2 : u_T := fun k => match k with
  | 0 => ("DugBySaid$Past", "nexts", "[I", true)
  | 1 => ("DugBySaid$Past", "listeners", "[I", true)
  | 2 => ("DugBySaid$Past", "heard", "[I", true)
  | 3 => ("DugBySaid$Past", "last", "[I", true)
  | 4 => ("DugBySaid$Past", "denied", "[I", true)
  | 5 => ("DugBySaid$Past", "askedWhom", "[I", true)
  | 6 => ("DugBySaid$Past", "askedDay", "[I", true)
  | 7 => ("DugBySaid$Past", "asked", "I", false)
  | 8 => ("DugBySaid$Past", "days", "I", false)
  | _ => ("DugBySaid$Past", "changes", "I", false)
def tyX2 : Nat → FieldType := fun k => match k with
  | 0 => .array .int
  | 1 => .array .int
  | 2 => .array .int
  | 3 => .array .int
  | 4 => .array .int
  | 5 => .array .int
  | 6 => .array .int
  | 7 => .int
  | 8 => .int
  | _ => .int
abbrev wsX20 : List Cond := u_ws RX2 TX2 10
theorem nmX2 : ∀ a, a < 10 → ∀ b, b < 10 → a ≠ b → (TX2 a).2.1 ≠ (TX2 b).2.1 := by decide +kernel
theorem tyX2_ok : ∀ k, k < 10 → parseFieldDescriptor (TX2 k).2.2.1 = some (tyX2 k) := by decide +kernel
abbrev cX2_init : ByteArray := prog_4_method_1_code
def yX2_init : MethodName := ⟨RX2, "<init>", "()V"⟩
abbrev cX2_begin : ByteArray := prog_4_method_2_code
def yX2_begin : MethodName := ⟨RX2, "begin", "()V"⟩
abbrev cX2_copy : ByteArray := prog_4_method_3_code
def yX2_copy : MethodName := ⟨RX2, "copy", "(LDugBySaid$Past;)V"⟩
abbrev cX2_nextOf : ByteArray := prog_4_method_4_code
def yX2_nextOf : MethodName := ⟨RX2, "nextOf", "(I)I"⟩
abbrev cX2_listenersOf : ByteArray := prog_4_method_5_code
def yX2_listenersOf : MethodName := ⟨RX2, "listenersOf", "(I)I"⟩
abbrev cX2_setNext : ByteArray := prog_4_method_6_code
def yX2_setNext : MethodName := ⟨RX2, "setNext", "(III)V"⟩
abbrev cX2_tunnelsHeardBy : ByteArray := prog_4_method_7_code
def yX2_tunnelsHeardBy : MethodName := ⟨RX2, "tunnelsHeardBy", "(I)I"⟩
abbrev cX2_hearings : ByteArray := prog_4_method_8_code
def yX2_hearings : MethodName := ⟨RX2, "hearings", "()I"⟩
abbrev cX2_note : ByteArray := prog_4_method_9_code
def yX2_note : MethodName := ⟨RX2, "note", "(II)Z"⟩
def RX3 : String := "DugBySaid$Riddle"
def TX3 : u_T := fun k => match k with
  | 0 => ("DugBySaid$Riddle", "hill", "LDugBySaid$Hill;", true)
  | 1 => ("DugBySaid$Riddle", "past", "LDugBySaid$Past;", true)
  | 2 => ("DugBySaid$Riddle", "talk", "LDugBySaid$Talk;", true)
  | _ => ("DugBySaid$Riddle", "left", "[I", true)
def tyX3 : Nat → FieldType := fun k => match k with
  | 0 => .object "DugBySaid$Hill"
  | 1 => .object "DugBySaid$Past"
  | 2 => .object "DugBySaid$Talk"
  | _ => .array .int
abbrev wsX30 : List Cond := u_ws RX3 TX3 4
theorem nmX3 : ∀ a, a < 4 → ∀ b, b < 4 → a ≠ b → (TX3 a).2.1 ≠ (TX3 b).2.1 := by decide +kernel
theorem tyX3_ok : ∀ k, k < 4 → parseFieldDescriptor (TX3 k).2.2.1 = some (tyX3 k) := by decide +kernel
abbrev cX3_init : ByteArray := prog_5_method_1_code
def yX3_init : MethodName := ⟨RX3, "<init>", "(LDugBySaid$Hill;LDugBySaid$Past;LDugBySaid$Talk;)V"⟩
abbrev cX3_beginners : ByteArray := prog_5_method_2_code
def yX3_beginners : MethodName := ⟨RX3, "beginners", "()I"⟩
abbrev cX3_bestToAsk : ByteArray := prog_5_method_3_code
def yX3_bestToAsk : MethodName := ⟨RX3, "bestToAsk", "(I)I"⟩
abbrev cX3_agrees : ByteArray := prog_5_method_4_code
def yX3_agrees : MethodName := ⟨RX3, "agrees", "(I)Z"⟩
abbrev cX3_leftAtWorst : ByteArray := prog_5_method_5_code
def yX3_leftAtWorst : MethodName := ⟨RX3, "leftAtWorst", "(II)I"⟩
def RX4 : String := "DugBySaid$Talk"
def TX4 : u_T := fun k => match k with
  | 0 => ("DugBySaid$Talk", "hill", "LDugBySaid$Hill;", true)
  | _ => ("DugBySaid$Talk", "past", "LDugBySaid$Past;", true)
def tyX4 : Nat → FieldType := fun k => match k with
  | 0 => .object "DugBySaid$Hill"
  | _ => .object "DugBySaid$Past"
abbrev wsX40 : List Cond := u_ws RX4 TX4 2
theorem nmX4 : ∀ a, a < 2 → ∀ b, b < 2 → a ≠ b → (TX4 a).2.1 ≠ (TX4 b).2.1 := by decide +kernel
theorem tyX4_ok : ∀ k, k < 2 → parseFieldDescriptor (TX4 k).2.2.1 = some (tyX4 k) := by decide +kernel
abbrev cX4_init : ByteArray := prog_6_method_1_code
def yX4_init : MethodName := ⟨RX4, "<init>", "(LDugBySaid$Hill;LDugBySaid$Past;)V"⟩
abbrev cX4_hearers : ByteArray := prog_6_method_2_code
def yX4_hearers : MethodName := ⟨RX4, "hearers", "(II)I"⟩
abbrev cX4_ends : ByteArray := prog_6_method_3_code
def yX4_ends : MethodName := ⟨RX4, "ends", "(I)I"⟩
abbrev cX4_lengthInTheEnd : ByteArray := prog_6_method_4_code
def yX4_lengthInTheEnd : MethodName := ⟨RX4, "lengthInTheEnd", "(III)I"⟩
abbrev cX4_lasts : ByteArray := prog_6_method_5_code
def yX4_lasts : MethodName := ⟨RX4, "lasts", "(I)I"⟩
abbrev cX4_dayHeard : ByteArray := prog_6_method_6_code
def yX4_dayHeard : MethodName := ⟨RX4, "dayHeard", "(II)I"⟩
def RX5 : String := "DugBySaid"
def TX5 : u_T := fun k => match k with
  | 0 => ("DugBySaid", "page", "LDugBySaid$Page;", true)
  | 1 => ("DugBySaid", "ground", "LDugBySaid$Hill;", true)
  | 2 => ("DugBySaid", "now", "LDugBySaid$Past;", true)
  | 3 => ("DugBySaid", "kept", "LDugBySaid$Past;", true)
  | 4 => ("DugBySaid", "talk", "LDugBySaid$Talk;", true)
  | 5 => ("DugBySaid", "riddle", "LDugBySaid$Riddle;", true)
  | 6 => ("DugBySaid", "hasImage", "Z", false)
  | _ => ("DugBySaid", "readings", "I", false)
def tyX5 : Nat → FieldType := fun k => match k with
  | 0 => .object "DugBySaid$Page"
  | 1 => .object "DugBySaid$Hill"
  | 2 => .object "DugBySaid$Past"
  | 3 => .object "DugBySaid$Past"
  | 4 => .object "DugBySaid$Talk"
  | 5 => .object "DugBySaid$Riddle"
  | 6 => .boolean
  | _ => .int
abbrev wsX50 : List Cond := u_ws RX5 TX5 8
theorem nmX5 : ∀ a, a < 8 → ∀ b, b < 8 → a ≠ b → (TX5 a).2.1 ≠ (TX5 b).2.1 := by decide +kernel
theorem tyX5_ok : ∀ k, k < 8 → parseFieldDescriptor (TX5 k).2.2.1 = some (tyX5 k) := by decide +kernel
abbrev cX5_init : ByteArray := prog_1_method_1_code
def yX5_init : MethodName := ⟨RX5, "<init>", "()V"⟩
abbrev cX5_letter : ByteArray := prog_1_method_2_code
def yX5_letter : MethodName := ⟨RX5, "letter", "(I)I"⟩
abbrev cX5_blank : ByteArray := prog_1_method_3_code
def yX5_blank : MethodName := ⟨RX5, "blank", "()I"⟩
abbrev cX5_fault : ByteArray := prog_1_method_4_code
def yX5_fault : MethodName := ⟨RX5, "fault", "()I"⟩
abbrev cX5_hill : ByteArray := prog_1_method_5_code
def yX5_hill : MethodName := ⟨RX5, "hill", "()I"⟩
abbrev cX5_person : ByteArray := prog_1_method_6_code
def yX5_person : MethodName := ⟨RX5, "person", "(II)I"⟩
abbrev cX5_as : ByteArray := prog_1_method_7_code
def yX5_as : MethodName := ⟨RX5, "as", "(II)I"⟩
abbrev cX5_next : ByteArray := prog_1_method_8_code
def yX5_next : MethodName := ⟨RX5, "next", "(II)I"⟩
abbrev cX5_point : ByteArray := prog_1_method_9_code
def yX5_point : MethodName := ⟨RX5, "point", "(II)V"⟩
abbrev cX5_tell : ByteArray := prog_1_method_10_code
def yX5_tell : MethodName := ⟨RX5, "tell", "(II)I"⟩
abbrev cX5_day : ByteArray := prog_1_method_11_code
def yX5_day : MethodName := ⟨RX5, "day", "()I"⟩
abbrev cX5_deny : ByteArray := prog_1_method_12_code
def yX5_deny : MethodName := ⟨RX5, "deny", "(I)I"⟩
abbrev cX5_tunnel : ByteArray := prog_1_method_13_code
def yX5_tunnel : MethodName := ⟨RX5, "tunnel", "(II)I"⟩
abbrev cX5_isTunnel : ByteArray := prog_1_method_14_code
def yX5_isTunnel : MethodName := ⟨RX5, "isTunnel", "(I)Z"⟩
abbrev cX5_lengthOf : ByteArray := prog_1_method_15_code
def yX5_lengthOf : MethodName := ⟨RX5, "lengthOf", "(I)I"⟩
abbrev cX5_aim : ByteArray := prog_1_method_16_code
def yX5_aim : MethodName := ⟨RX5, "aim", "(II)I"⟩
abbrev cX5_fewestToTell : ByteArray := prog_1_method_17_code
def yX5_fewestToTell : MethodName := ⟨RX5, "fewestToTell", "(I)I"⟩
abbrev cX5_heard : ByteArray := prog_1_method_18_code
def yX5_heard : MethodName := ⟨RX5, "heard", "(II)I"⟩
abbrev cX5_forget : ByteArray := prog_1_method_19_code
def yX5_forget : MethodName := ⟨RX5, "forget", "()I"⟩
abbrev cX5_began : ByteArray := prog_1_method_20_code
def yX5_began : MethodName := ⟨RX5, "began", "()I"⟩
abbrev cX5_ask : ByteArray := prog_1_method_21_code
def yX5_ask : MethodName := ⟨RX5, "ask", "()I"⟩
abbrev cX5_markets : ByteArray := prog_1_method_22_code
def yX5_markets : MethodName := ⟨RX5, "markets", "(III)I"⟩
abbrev cX5_seedBehind : ByteArray := prog_1_method_23_code
def yX5_seedBehind : MethodName := ⟨RX5, "seedBehind", "(I)I"⟩
abbrev cX5_image : ByteArray := prog_1_method_24_code
def yX5_image : MethodName := ⟨RX5, "image", "()I"⟩
abbrev cX5_restore : ByteArray := prog_1_method_25_code
def yX5_restore : MethodName := ⟨RX5, "restore", "()I"⟩
abbrev cX5_count : ByteArray := prog_1_method_26_code
def yX5_count : MethodName := ⟨RX5, "count", "(I)I"⟩
abbrev cX5_lengthOfAll : ByteArray := prog_1_method_27_code
def yX5_lengthOfAll : MethodName := ⟨RX5, "lengthOfAll", "()I"⟩
abbrev cX5_digest : ByteArray := prog_1_method_28_code
def yX5_digest : MethodName := ⟨RX5, "digest", "()J"⟩
abbrev cX5_withPeople : ByteArray := prog_1_method_29_code
def yX5_withPeople : MethodName := ⟨RX5, "withPeople", "(J)J"⟩
abbrev cX5_withTunnels : ByteArray := prog_1_method_30_code
def yX5_withTunnels : MethodName := ⟨RX5, "withTunnels", "(J)J"⟩
abbrev cX5_withLetters : ByteArray := prog_1_method_31_code
def yX5_withLetters : MethodName := ⟨RX5, "withLetters", "(J)J"⟩
abbrev cX5_mixed : ByteArray := prog_1_method_32_code
def yX5_mixed : MethodName := ⟨RX5, "mixed", "(JJ)J"⟩
abbrev cX5_isOfKind : ByteArray := prog_1_method_33_code
def yX5_isOfKind : MethodName := ⟨RX5, "isOfKind", "(II)Z"⟩
abbrev cX5_isIn : ByteArray := prog_1_method_34_code
def yX5_isIn : MethodName := ⟨RX5, "isIn", "(II)Z"⟩
def RX6 : String := "DugBySaidModel"
def TX6 : u_T := fun k => match k with
  | 0 => ("DugBySaidModel", "page", "[I", true)
  | 1 => ("DugBySaidModel", "pageMany", "I", false)
  | 2 => ("DugBySaidModel", "endAt", "I", false)
  | 3 => ("DugBySaidModel", "people", "I", false)
  | 4 => ("DugBySaidModel", "river", "I", false)
  | 5 => ("DugBySaidModel", "days", "I", false)
  | 6 => ("DugBySaidModel", "changes", "I", false)
  | 7 => ("DugBySaidModel", "hillsRead", "I", false)
  | 8 => ("DugBySaidModel", "rows", "[I", true)
  | 9 => ("DugBySaidModel", "tunnels", "[I", true)
  | 10 => ("DugBySaidModel", "askedMany", "I", false)
  | 11 => ("DugBySaidModel", "askeds", "[I", true)
  | 12 => ("DugBySaidModel", "parts", "[I", true)
  | 13 => ("DugBySaidModel", "seedNow", "I", false)
  | 14 => ("DugBySaidModel", "keptHill", "I", false)
  | 15 => ("DugBySaidModel", "keptDays", "I", false)
  | 16 => ("DugBySaidModel", "keptChanges", "I", false)
  | 17 => ("DugBySaidModel", "keptAsked", "I", false)
  | 18 => ("DugBySaidModel", "keptRows", "[I", true)
  | 19 => ("DugBySaidModel", "keptTunnels", "[I", true)
  | 20 => ("DugBySaidModel", "keptAskeds", "[I", true)
  | _ => ("DugBySaidModel", "hash", "J", false)
def tyX6 : Nat → FieldType := fun k => match k with
  | 0 => .array .int
  | 1 => .int
  | 2 => .int
  | 3 => .int
  | 4 => .int
  | 5 => .int
  | 6 => .int
  | 7 => .int
  | 8 => .array .int
  | 9 => .array .int
  | 10 => .int
  | 11 => .array .int
  | 12 => .array .int
  | 13 => .int
  | 14 => .int
  | 15 => .int
  | 16 => .int
  | 17 => .int
  | 18 => .array .int
  | 19 => .array .int
  | 20 => .array .int
  | _ => .long
abbrev wsX60 : List Cond := u_ws RX6 TX6 22
theorem nmX6 : ∀ a, a < 22 → ∀ b, b < 22 → a ≠ b → (TX6 a).2.1 ≠ (TX6 b).2.1 := by decide +kernel
theorem tyX6_ok : ∀ k, k < 22 → parseFieldDescriptor (TX6 k).2.2.1 = some (tyX6 k) := by decide +kernel
abbrev cX6_init : ByteArray := prog_8_method_1_code
def yX6_init : MethodName := ⟨RX6, "<init>", "()V"⟩
abbrev cX6_in : ByteArray := prog_8_method_2_code
def yX6_in : MethodName := ⟨RX6, "in", "(JJJ)Z"⟩
abbrev cX6_copy : ByteArray := prog_8_method_3_code
def yX6_copy : MethodName := ⟨RX6, "copy", "([I[I)V"⟩
abbrev cX6_ones : ByteArray := prog_8_method_4_code
def yX6_ones : MethodName := ⟨RX6, "ones", "(I)I"⟩
abbrev cX6_letter : ByteArray := prog_8_method_5_code
def yX6_letter : MethodName := ⟨RX6, "letter", "(I)I"⟩
abbrev cX6_blank : ByteArray := prog_8_method_6_code
def yX6_blank : MethodName := ⟨RX6, "blank", "()I"⟩
abbrev cX6_kindBy : ByteArray := prog_8_method_7_code
def yX6_kindBy : MethodName := ⟨RX6, "kindBy", "(I)I"⟩
abbrev cX6_isGood : ByteArray := prog_8_method_8_code
def yX6_isGood : MethodName := ⟨RX6, "isGood", "(I)Z"⟩
abbrev cX6_faultOf : ByteArray := prog_8_method_9_code
def yX6_faultOf : MethodName := ⟨RX6, "faultOf", "()I"⟩
abbrev cX6_fault : ByteArray := prog_8_method_10_code
def yX6_fault : MethodName := ⟨RX6, "fault", "()I"⟩
abbrev cX6_hill : ByteArray := prog_8_method_11_code
def yX6_hill : MethodName := ⟨RX6, "hill", "()I"⟩
abbrev cX6_lacks : ByteArray := prog_8_method_12_code
def yX6_lacks : MethodName := ⟨RX6, "lacks", "()Z"⟩
abbrev cX6_isPerson : ByteArray := prog_8_method_13_code
def yX6_isPerson : MethodName := ⟨RX6, "isPerson", "(I)Z"⟩
abbrev cX6_isTunnel : ByteArray := prog_8_method_14_code
def yX6_isTunnel : MethodName := ⟨RX6, "isTunnel", "(I)Z"⟩
abbrev cX6_tellsOf : ByteArray := prog_8_method_15_code
def yX6_tellsOf : MethodName := ⟨RX6, "tellsOf", "(I)I"⟩
abbrev cX6_toldBy : ByteArray := prog_8_method_16_code
def yX6_toldBy : MethodName := ⟨RX6, "toldBy", "(I)I"⟩
abbrev cX6_endBy : ByteArray := prog_8_method_17_code
def yX6_endBy : MethodName := ⟨RX6, "endBy", "(II)I"⟩
abbrev cX6_yardsBy : ByteArray := prog_8_method_18_code
def yX6_yardsBy : MethodName := ⟨RX6, "yardsBy", "(I)I"⟩
abbrev cX6_lengthBy : ByteArray := prog_8_method_19_code
def yX6_lengthBy : MethodName := ⟨RX6, "lengthBy", "(II)I"⟩
abbrev cX6_endsOf : ByteArray := prog_8_method_20_code
def yX6_endsOf : MethodName := ⟨RX6, "endsOf", "(I)I"⟩
abbrev cX6_dayOf : ByteArray := prog_8_method_21_code
def yX6_dayOf : MethodName := ⟨RX6, "dayOf", "(II)I"⟩
abbrev cX6_lastsOf : ByteArray := prog_8_method_22_code
def yX6_lastsOf : MethodName := ⟨RX6, "lastsOf", "(I)I"⟩
abbrev cX6_tunnelsOf : ByteArray := prog_8_method_23_code
def yX6_tunnelsOf : MethodName := ⟨RX6, "tunnelsOf", "(I)I"⟩
abbrev cX6_tellPerson : ByteArray := prog_8_method_24_code
def yX6_tellPerson : MethodName := ⟨RX6, "tellPerson", "(II)I"⟩
abbrev cX6_person : ByteArray := prog_8_method_25_code
def yX6_person : MethodName := ⟨RX6, "person", "(II)I"⟩
abbrev cX6_as : ByteArray := prog_8_method_26_code
def yX6_as : MethodName := ⟨RX6, "as", "(II)I"⟩
abbrev cX6_next : ByteArray := prog_8_method_27_code
def yX6_next : MethodName := ⟨RX6, "next", "(II)I"⟩
abbrev cX6_lengthOf : ByteArray := prog_8_method_28_code
def yX6_lengthOf : MethodName := ⟨RX6, "lengthOf", "(I)I"⟩
abbrev cX6_tell : ByteArray := prog_8_method_29_code
def yX6_tell : MethodName := ⟨RX6, "tell", "(II)I"⟩
abbrev cX6_day : ByteArray := prog_8_method_30_code
def yX6_day : MethodName := ⟨RX6, "day", "()I"⟩
abbrev cX6_deny : ByteArray := prog_8_method_31_code
def yX6_deny : MethodName := ⟨RX6, "deny", "(I)I"⟩
abbrev cX6_tellTunnel : ByteArray := prog_8_method_32_code
def yX6_tellTunnel : MethodName := ⟨RX6, "tellTunnel", "(II)I"⟩
abbrev cX6_tunnel : ByteArray := prog_8_method_33_code
def yX6_tunnel : MethodName := ⟨RX6, "tunnel", "(II)I"⟩
abbrev cX6_aimOf : ByteArray := prog_8_method_34_code
def yX6_aimOf : MethodName := ⟨RX6, "aimOf", "(II)I"⟩
abbrev cX6_aim : ByteArray := prog_8_method_35_code
def yX6_aim : MethodName := ⟨RX6, "aim", "(II)I"⟩
abbrev cX6_heard : ByteArray := prog_8_method_36_code
def yX6_heard : MethodName := ⟨RX6, "heard", "(II)I"⟩
abbrev cX6_forget : ByteArray := prog_8_method_37_code
def yX6_forget : MethodName := ⟨RX6, "forget", "()I"⟩
abbrev cX6_beganOf : ByteArray := prog_8_method_38_code
def yX6_beganOf : MethodName := ⟨RX6, "beganOf", "()I"⟩
abbrev cX6_began : ByteArray := prog_8_method_39_code
def yX6_began : MethodName := ⟨RX6, "began", "()I"⟩
abbrev cX6_askOf : ByteArray := prog_8_method_40_code
def yX6_askOf : MethodName := ⟨RX6, "askOf", "()I"⟩
abbrev cX6_ask : ByteArray := prog_8_method_41_code
def yX6_ask : MethodName := ⟨RX6, "ask", "()I"⟩
abbrev cX6_draw : ByteArray := prog_8_method_42_code
def yX6_draw : MethodName := ⟨RX6, "draw", "(I)I"⟩
abbrev cX6_markets : ByteArray := prog_8_method_43_code
def yX6_markets : MethodName := ⟨RX6, "markets", "(III)I"⟩
abbrev cX6_image : ByteArray := prog_8_method_44_code
def yX6_image : MethodName := ⟨RX6, "image", "()I"⟩
abbrev cX6_restore : ByteArray := prog_8_method_45_code
def yX6_restore : MethodName := ⟨RX6, "restore", "()I"⟩
abbrev cX6_lengthAll : ByteArray := prog_8_method_46_code
def yX6_lengthAll : MethodName := ⟨RX6, "lengthAll", "()I"⟩
abbrev cX6_heardAll : ByteArray := prog_8_method_47_code
def yX6_heardAll : MethodName := ⟨RX6, "heardAll", "()I"⟩
abbrev cX6_countOf : ByteArray := prog_8_method_48_code
def yX6_countOf : MethodName := ⟨RX6, "countOf", "(I)I"⟩
abbrev cX6_count : ByteArray := prog_8_method_49_code
def yX6_count : MethodName := ⟨RX6, "count", "(I)I"⟩
abbrev cX6_say : ByteArray := prog_8_method_50_code
def yX6_say : MethodName := ⟨RX6, "say", "(J)V"⟩
abbrev cX6_sayHill : ByteArray := prog_8_method_51_code
def yX6_sayHill : MethodName := ⟨RX6, "sayHill", "()V"⟩
abbrev cX6_digest : ByteArray := prog_8_method_52_code
def yX6_digest : MethodName := ⟨RX6, "digest", "()J"⟩
def RJ11 : String := "java/lang/Character"
def TJ11 : u_T := fun k => match k with
  | _ => ("", "", "", false)
def tyJ11 : Nat → FieldType := fun k => match k with
  | _ => .int
abbrev wsJ110 : List Cond := u_ws RJ11 TJ11 0
theorem nmJ11 : ∀ a, a < 0 → ∀ b, b < 0 → a ≠ b → (TJ11 a).2.1 ≠ (TJ11 b).2.1 := by decide +kernel
theorem tyJ11_ok : ∀ k, k < 0 → parseFieldDescriptor (TJ11 k).2.2.1 = some (tyJ11 k) := by decide +kernel
abbrev cJ11_isValidCodePoint_9a6ad : ByteArray := prog_9_method_11_code
def yJ11_isValidCodePoint_9a6ad : MethodName := ⟨RJ11, "isValidCodePoint", "(I)Z"⟩
abbrev cJ11_highSurrogate_5068e : ByteArray := prog_9_method_28_code
def yJ11_highSurrogate_5068e : MethodName := ⟨RJ11, "highSurrogate", "(I)C"⟩
abbrev cJ11_lowSurrogate_5068e : ByteArray := prog_9_method_29_code
def yJ11_lowSurrogate_5068e : MethodName := ⟨RJ11, "lowSurrogate", "(I)C"⟩
def RJ6 : String := "java/lang/Integer"
def TJ6 : u_T := fun k => match k with
  | _ => ("", "", "", false)
def tyJ6 : Nat → FieldType := fun k => match k with
  | _ => .int
abbrev wsJ60 : List Cond := u_ws RJ6 TJ6 0
theorem nmJ6 : ∀ a, a < 0 → ∀ b, b < 0 → a ≠ b → (TJ6 a).2.1 ≠ (TJ6 b).2.1 := by decide +kernel
theorem tyJ6_ok : ∀ k, k < 0 → parseFieldDescriptor (TJ6 k).2.2.1 = some (tyJ6 k) := by decide +kernel
abbrev cJ6_bitCount_0f7a4 : ByteArray := prog_10_method_49_code
def yJ6_bitCount_0f7a4 : MethodName := ⟨RJ6, "bitCount", "(I)I"⟩
def RJ9 : String := "java/lang/Math"
def TJ9 : u_T := fun k => match k with
  | _ => ("", "", "", false)
def tyJ9 : Nat → FieldType := fun k => match k with
  | _ => .int
abbrev wsJ90 : List Cond := u_ws RJ9 TJ9 0
theorem nmJ9 : ∀ a, a < 0 → ∀ b, b < 0 → a ≠ b → (TJ9 a).2.1 ≠ (TJ9 b).2.1 := by decide +kernel
theorem tyJ9_ok : ∀ k, k < 0 → parseFieldDescriptor (TJ9 k).2.2.1 = some (tyJ9 k) := by decide +kernel
abbrev cJ9_max_7cf53 : ByteArray := prog_11_method_65_code
def yJ9_max_7cf53 : MethodName := ⟨RJ9, "max", "(II)I"⟩
abbrev cJ9_min_7cf53 : ByteArray := prog_11_method_69_code
def yJ9_min_7cf53 : MethodName := ⟨RJ9, "min", "(II)I"⟩
def RJ0 : String := "java/lang/String"
def TJ0 : u_T := fun k => match k with
  | _ => ("", "", "", false)
def tyJ0 : Nat → FieldType := fun k => match k with
  | _ => .int
abbrev wsJ00 : List Cond := u_ws RJ0 TJ0 0
theorem nmJ0 : ∀ a, a < 0 → ∀ b, b < 0 → a ≠ b → (TJ0 a).2.1 ≠ (TJ0 b).2.1 := by decide +kernel
theorem tyJ0_ok : ∀ k, k < 0 → parseFieldDescriptor (TJ0 k).2.2.1 = some (tyJ0 k) := by decide +kernel
abbrev cJ0_length_8abf5 : ByteArray := prog_12_method_54_code
def yJ0_length_8abf5 : MethodName := ⟨RJ0, "length", "()I"⟩
abbrev cJ0_indexOf_0f7a4 : ByteArray := prog_12_method_79_code
def yJ0_indexOf_0f7a4 : MethodName := ⟨RJ0, "indexOf", "(I)I"⟩
abbrev cJ0_indexOf_7cf53 : ByteArray := prog_12_method_80_code
def yJ0_indexOf_7cf53 : MethodName := ⟨RJ0, "indexOf", "(II)I"⟩
abbrev cJ0_coder_7d493 : ByteArray := prog_12_method_152_code
def yJ0_coder_7d493 : MethodName := ⟨RJ0, "coder", "()B"⟩
abbrev cJ0_isLatin1_aae02 : ByteArray := prog_12_method_154_code
def yJ0_isLatin1_aae02 : MethodName := ⟨RJ0, "isLatin1", "()Z"⟩
abbrev cJ0_checkBoundsBeginEnd_23922 : ByteArray := prog_12_method_158_code
def yJ0_checkBoundsBeginEnd_23922 : MethodName := ⟨RJ0, "checkBoundsBeginEnd", "(III)V"⟩
def RJ1 : String := "java/lang/StringLatin1"
def TJ1 : u_T := fun k => match k with
  | _ => ("", "", "", false)
def tyJ1 : Nat → FieldType := fun k => match k with
  | _ => .int
abbrev wsJ10 : List Cond := u_ws RJ1 TJ1 0
theorem nmJ1 : ∀ a, a < 0 → ∀ b, b < 0 → a ≠ b → (TJ1 a).2.1 ≠ (TJ1 b).2.1 := by decide +kernel
theorem tyJ1_ok : ∀ k, k < 0 → parseFieldDescriptor (TJ1 k).2.2.1 = some (tyJ1 k) := by decide +kernel
abbrev cJ1_canEncode_9a6ad : ByteArray := prog_13_method_4_code
def yJ1_canEncode_9a6ad : MethodName := ⟨RJ1, "canEncode", "(I)Z"⟩
abbrev cJ1_indexOf_4cfef : ByteArray := prog_13_method_22_code
def yJ1_indexOf_4cfef : MethodName := ⟨RJ1, "indexOf", "([BIII)I"⟩
abbrev cJ1_indexOfChar_4cfef : ByteArray := prog_13_method_23_code
def yJ1_indexOfChar_4cfef : MethodName := ⟨RJ1, "indexOfChar", "([BIII)I"⟩
def RJ2 : String := "java/lang/StringUTF16"
def TJ2 : u_T := fun k => match k with
  | _ => ("", "", "", false)
def tyJ2 : Nat → FieldType := fun k => match k with
  | _ => .int
abbrev wsJ20 : List Cond := u_ws RJ2 TJ2 0
theorem nmJ2 : ∀ a, a < 0 → ∀ b, b < 0 → a ≠ b → (TJ2 a).2.1 ≠ (TJ2 b).2.1 := by decide +kernel
theorem tyJ2_ok : ∀ k, k < 0 → parseFieldDescriptor (TJ2 k).2.2.1 = some (tyJ2 k) := by decide +kernel
abbrev cJ2_getChar_3b067 : ByteArray := prog_14_method_5_code
def yJ2_getChar_3b067 : MethodName := ⟨RJ2, "getChar", "([BI)C"⟩
abbrev cJ2_length_9d52b : ByteArray := prog_14_method_6_code
def yJ2_length_9d52b : MethodName := ⟨RJ2, "length", "([B)I"⟩
abbrev cJ2_indexOf_4cfef : ByteArray := prog_14_method_40_code
def yJ2_indexOf_4cfef : MethodName := ⟨RJ2, "indexOf", "([BIII)I"⟩
abbrev cJ2_indexOfChar_4cfef : ByteArray := prog_14_method_47_code
def yJ2_indexOfChar_4cfef : MethodName := ⟨RJ2, "indexOfChar", "([BIII)I"⟩
abbrev cJ2_indexOfCharUnsafe_4cfef : ByteArray := prog_14_method_48_code
def yJ2_indexOfCharUnsafe_4cfef : MethodName := ⟨RJ2, "indexOfCharUnsafe", "([BIII)I"⟩
abbrev cJ2_indexOfSupplementary_4cfef : ByteArray := prog_14_method_49_code
def yJ2_indexOfSupplementary_4cfef : MethodName := ⟨RJ2, "indexOfSupplementary", "([BIII)I"⟩
abbrev cJ2_checkBoundsBeginEnd_d044e : ByteArray := prog_14_method_93_code
def yJ2_checkBoundsBeginEnd_d044e : MethodName := ⟨RJ2, "checkBoundsBeginEnd", "(II[B)V"⟩
def RJ10 : String := "java/lang/System"
def TJ10 : u_T := fun k => match k with
  | _ => ("", "", "", false)
def tyJ10 : Nat → FieldType := fun k => match k with
  | _ => .int
abbrev wsJ100 : List Cond := u_ws RJ10 TJ10 0
theorem nmJ10 : ∀ a, a < 0 → ∀ b, b < 0 → a ≠ b → (TJ10 a).2.1 ≠ (TJ10 b).2.1 := by decide +kernel
theorem tyJ10_ok : ∀ k, k < 0 → parseFieldDescriptor (TJ10 k).2.2.1 = some (tyJ10 k) := by decide +kernel
def RJ3 : String := "jdk/internal/util/Preconditions"
def TJ3 : u_T := fun k => match k with
  | _ => ("", "", "", false)
def tyJ3 : Nat → FieldType := fun k => match k with
  | _ => .int
abbrev wsJ30 : List Cond := u_ws RJ3 TJ3 0
theorem nmJ3 : ∀ a, a < 0 → ∀ b, b < 0 → a ≠ b → (TJ3 a).2.1 ≠ (TJ3 b).2.1 := by decide +kernel
theorem tyJ3_ok : ∀ k, k < 0 → parseFieldDescriptor (TJ3 k).2.2.1 = some (tyJ3 k) := by decide +kernel
abbrev cJ3_checkFromToIndex_8c36e : ByteArray := prog_16_method_12_code
def yJ3_checkFromToIndex_8c36e : MethodName := ⟨RJ3, "checkFromToIndex", "(IIILjava/util/function/BiFunction;)I"⟩
def RL : String := "DugBySaidLaw"
abbrev cL_law : ByteArray := code
def yL_law : MethodName := ⟨RL, "law", "([I)Z"⟩
abbrev vwCl : List vw_C := [(RX0, TX0, 3), (RX1, TX1, 2), (RX2, TX2, 10), (RX3, TX3, 4), (RX4, TX4, 2), (RX5, TX5, 8), (RX6, TX6, 22)]
end
section
/-! ===== the tables' good words, each by its place ===== -/
def wsA : List Cond := lw_tbl.filter goodWord
theorem inA {w : Cond} (h : w ∈ lw_tbl) (hg : goodWord w = true) : w ∈ wsA := List.mem_filter.mpr ⟨h, hg⟩
theorem tb1 {w : Cond} (h : w ∈ tables_1_1) : w ∈ lw_tbl := List.mem_append_right _ (List.mem_append_left _ h)
theorem tb2 {w : Cond} (h : w ∈ tables_1_2) : w ∈ lw_tbl := List.mem_append_right _ (List.mem_append_right _ (List.mem_append_left _ h))
theorem tb3 {w : Cond} (h : w ∈ tables_1_3) : w ∈ lw_tbl := List.mem_append_right _ (List.mem_append_right _ (List.mem_append_right _ (List.mem_append_left _ h)))
theorem tb4 {w : Cond} (h : w ∈ tables_1_4) : w ∈ lw_tbl := List.mem_append_right _ (List.mem_append_right _ (List.mem_append_right _ (List.mem_append_right _ h)))
theorem tbs {q : MethodName × Nat} (h : q ∈ lw_privs) : Cond.selects q.1.cls q.1 q.1 ∈ lw_tbl := List.mem_append_left _ (List.mem_map.mpr ⟨q, h, rfl⟩)
theorem mN_L : Cond.initialized RL ∈ wsA := inA (tb1 (List.mem_of_getElem? (i := 0) rfl)) rfl
theorem mN_X5 : Cond.initialized RX5 ∈ wsA := inA (tb1 (List.mem_of_getElem? (i := 1) rfl)) rfl
theorem mN_X1 : Cond.initialized RX1 ∈ wsA := inA (tb1 (List.mem_of_getElem? (i := 2) rfl)) rfl
theorem mN_X0 : Cond.initialized RX0 ∈ wsA := inA (tb1 (List.mem_of_getElem? (i := 3) rfl)) rfl
theorem mN_X2 : Cond.initialized RX2 ∈ wsA := inA (tb1 (List.mem_of_getElem? (i := 4) rfl)) rfl
theorem mN_X4 : Cond.initialized RX4 ∈ wsA := inA (tb1 (List.mem_of_getElem? (i := 5) rfl)) rfl
theorem mN_X3 : Cond.initialized RX3 ∈ wsA := inA (tb1 (List.mem_of_getElem? (i := 6) rfl)) rfl
theorem mN_X6 : Cond.initialized RX6 ∈ wsA := inA (tb1 (List.mem_of_getElem? (i := 7) rfl)) rfl
theorem mN_J0 : Cond.initialized RJ0 ∈ wsA := inA (tb1 (List.mem_of_getElem? (i := 8) rfl)) rfl
theorem mN_J1 : Cond.initialized RJ1 ∈ wsA := inA (tb1 (List.mem_of_getElem? (i := 9) rfl)) rfl
theorem mN_J9 : Cond.initialized RJ9 ∈ wsA := inA (tb1 (List.mem_of_getElem? (i := 10) rfl)) rfl
theorem mN_J2 : Cond.initialized RJ2 ∈ wsA := inA (tb1 (List.mem_of_getElem? (i := 11) rfl)) rfl
theorem mN_J3 : Cond.initialized RJ3 ∈ wsA := inA (tb1 (List.mem_of_getElem? (i := 12) rfl)) rfl
theorem mN_J11 : Cond.initialized RJ11 ∈ wsA := inA (tb1 (List.mem_of_getElem? (i := 13) rfl)) rfl
theorem mN_J6 : Cond.initialized RJ6 ∈ wsA := inA (tb1 (List.mem_of_getElem? (i := 14) rfl)) rfl
theorem mN_J10 : Cond.initialized RJ10 ∈ wsA := inA (tb1 (List.mem_of_getElem? (i := 15) rfl)) rfl
theorem mQ_L_7 : Cond.classLink RL 7 RX5 ∈ wsA := inA (tb1 (List.mem_of_getElem? (i := 16) rfl)) rfl
theorem mB_X5 : Cond.instantiable RX5 8 ∈ wsA := inA (tb1 (List.mem_of_getElem? (i := 17) rfl)) rfl
theorem mL_L_9 : Cond.methodLink RL 9 yX5_init ∈ wsA := inA (tb1 (List.mem_of_getElem? (i := 18) rfl)) rfl
theorem mI_X5_init : Cond.instanceMethod yX5_init ∈ wsA := inA (tb1 (List.mem_of_getElem? (i := 19) rfl)) rfl
theorem mC_X5_init : Cond.code yX5_init cX5_init 1 none ∈ wsA := inA (tb1 (List.mem_of_getElem? (i := 20) rfl)) rfl
theorem mL_X5_1 : Cond.methodLink RX5 1 objectInit ∈ wsA := inA (tb1 (List.mem_of_getElem? (i := 21) rfl)) rfl
theorem mI_objectInit : Cond.instanceMethod objectInit ∈ wsA := inA (tb1 (List.mem_of_getElem? (i := 22) rfl)) rfl
theorem mC_objectInit : Cond.code objectInit ⟨#[0xb1]⟩ 1 none ∈ wsA := inA (tb1 (List.mem_of_getElem? (i := 23) rfl)) rfl
theorem mQ_X5_7 : Cond.classLink RX5 7 RX1 ∈ wsA := inA (tb1 (List.mem_of_getElem? (i := 24) rfl)) rfl
theorem mB_X1 : Cond.instantiable RX1 2 ∈ wsA := inA (tb1 (List.mem_of_getElem? (i := 25) rfl)) rfl
theorem mL_X5_9 : Cond.methodLink RX5 9 yX1_init ∈ wsA := inA (tb1 (List.mem_of_getElem? (i := 26) rfl)) rfl
theorem mI_X1_init : Cond.instanceMethod yX1_init ∈ wsA := inA (tb1 (List.mem_of_getElem? (i := 27) rfl)) rfl
theorem mC_X1_init : Cond.code yX1_init cX1_init 1 none ∈ wsA := inA (tb1 (List.mem_of_getElem? (i := 28) rfl)) rfl
theorem mL_X1_3 : Cond.methodLink RX1 3 objectInit ∈ wsA := inA (tb1 (List.mem_of_getElem? (i := 29) rfl)) rfl
theorem mF_X1_9 : Cond.fieldLink RX1 9 "DugBySaid$Page" "codes" "[I" ∈ wsA := inA (tb1 (List.mem_of_getElem? (i := 30) rfl)) rfl
theorem mF_X1_15 : Cond.fieldLink RX1 15 "DugBySaid$Page" "length" "I" ∈ wsA := inA (tb1 (List.mem_of_getElem? (i := 31) rfl)) rfl
theorem mA_int : Cond.arrayClass .int ∈ wsA := inA (tb1 (List.mem_of_getElem? (i := 38) rfl)) rfl
theorem mQ_X5_16 : Cond.classLink RX5 16 RX0 ∈ wsA := inA (tb1 (List.mem_of_getElem? (i := 39) rfl)) rfl
theorem mB_X0 : Cond.instantiable RX0 3 ∈ wsA := inA (tb1 (List.mem_of_getElem? (i := 40) rfl)) rfl
theorem mL_X5_18 : Cond.methodLink RX5 18 yX0_init ∈ wsA := inA (tb1 (List.mem_of_getElem? (i := 41) rfl)) rfl
theorem mI_X0_init : Cond.instanceMethod yX0_init ∈ wsA := inA (tb1 (List.mem_of_getElem? (i := 42) rfl)) rfl
theorem mC_X0_init : Cond.code yX0_init cX0_init 1 none ∈ wsA := inA (tb1 (List.mem_of_getElem? (i := 43) rfl)) rfl
theorem mL_X0_3 : Cond.methodLink RX0 3 objectInit ∈ wsA := inA (tb1 (List.mem_of_getElem? (i := 44) rfl)) rfl
theorem mF_X0_9 : Cond.fieldLink RX0 9 "DugBySaid$Hill" "kinds" "[I" ∈ wsA := inA (tb1 (List.mem_of_getElem? (i := 45) rfl)) rfl
theorem mF_X0_15 : Cond.fieldLink RX0 15 "DugBySaid$Hill" "people" "I" ∈ wsA := inA (tb1 (List.mem_of_getElem? (i := 46) rfl)) rfl
theorem mF_X0_19 : Cond.fieldLink RX0 19 "DugBySaid$Hill" "river" "I" ∈ wsA := inA (tb1 (List.mem_of_getElem? (i := 50) rfl)) rfl
theorem mQ_X5_23 : Cond.classLink RX5 23 RX2 ∈ wsA := inA (tb1 (List.mem_of_getElem? (i := 59) rfl)) rfl
theorem mB_X2 : Cond.instantiable RX2 10 ∈ wsA := inA (tb1 (List.mem_of_getElem? (i := 60) rfl)) rfl
theorem mL_X5_25 : Cond.methodLink RX5 25 yX2_init ∈ wsA := inA (tb1 (List.mem_of_getElem? (i := 61) rfl)) rfl
theorem mI_X2_init : Cond.instanceMethod yX2_init ∈ wsA := inA (tb1 (List.mem_of_getElem? (i := 62) rfl)) rfl
theorem mC_X2_init : Cond.code yX2_init cX2_init 1 none ∈ wsA := inA (tb1 (List.mem_of_getElem? (i := 63) rfl)) rfl
theorem mL_X2_3 : Cond.methodLink RX2 3 objectInit ∈ wsA := inA (tb1 (List.mem_of_getElem? (i := 64) rfl)) rfl
theorem mF_X2_9 : Cond.fieldLink RX2 9 "DugBySaid$Past" "nexts" "[I" ∈ wsA := inA (tb1 (List.mem_of_getElem? (i := 65) rfl)) rfl
theorem mF_X2_15 : Cond.fieldLink RX2 15 "DugBySaid$Past" "listeners" "[I" ∈ wsA := inA (tb1 (List.mem_of_getElem? (i := 66) rfl)) rfl
theorem mF_X2_18 : Cond.fieldLink RX2 18 "DugBySaid$Past" "heard" "[I" ∈ wsA := inA (tb1 (List.mem_of_getElem? (i := 67) rfl)) rfl
theorem mF_X2_21 : Cond.fieldLink RX2 21 "DugBySaid$Past" "last" "[I" ∈ wsA := inA (tb1 (List.mem_of_getElem? (i := 69) rfl)) rfl
theorem mF_X2_24 : Cond.fieldLink RX2 24 "DugBySaid$Past" "denied" "[I" ∈ wsA := inA (tb1 (List.mem_of_getElem? (i := 71) rfl)) rfl
theorem mF_X2_27 : Cond.fieldLink RX2 27 "DugBySaid$Past" "askedWhom" "[I" ∈ wsA := inA (tb1 (List.mem_of_getElem? (i := 73) rfl)) rfl
theorem mF_X2_30 : Cond.fieldLink RX2 30 "DugBySaid$Past" "askedDay" "[I" ∈ wsA := inA (tb1 (List.mem_of_getElem? (i := 75) rfl)) rfl
theorem mF_X2_33 : Cond.fieldLink RX2 33 "DugBySaid$Past" "asked" "I" ∈ wsA := inA (tb1 (List.mem_of_getElem? (i := 77) rfl)) rfl
theorem mF_X2_37 : Cond.fieldLink RX2 37 "DugBySaid$Past" "days" "I" ∈ wsA := inA (tb1 (List.mem_of_getElem? (i := 80) rfl)) rfl
theorem mF_X2_40 : Cond.fieldLink RX2 40 "DugBySaid$Past" "changes" "I" ∈ wsA := inA (tb1 (List.mem_of_getElem? (i := 82) rfl)) rfl
theorem mQ_X5_33 : Cond.classLink RX5 33 RX4 ∈ wsA := inA (tb1 (List.mem_of_getElem? (i := 105) rfl)) rfl
theorem mB_X4 : Cond.instantiable RX4 2 ∈ wsA := inA (tb1 (List.mem_of_getElem? (i := 106) rfl)) rfl
theorem mL_X5_35 : Cond.methodLink RX5 35 yX4_init ∈ wsA := inA (tb1 (List.mem_of_getElem? (i := 107) rfl)) rfl
theorem mI_X4_init : Cond.instanceMethod yX4_init ∈ wsA := inA (tb1 (List.mem_of_getElem? (i := 108) rfl)) rfl
theorem mC_X4_init : Cond.code yX4_init cX4_init 3 none ∈ wsA := inA (tb1 (List.mem_of_getElem? (i := 109) rfl)) rfl
theorem mL_X4_3 : Cond.methodLink RX4 3 objectInit ∈ wsA := inA (tb1 (List.mem_of_getElem? (i := 110) rfl)) rfl
theorem mF_X4_9 : Cond.fieldLink RX4 9 "DugBySaid$Talk" "hill" "LDugBySaid$Hill;" ∈ wsA := inA (tb1 (List.mem_of_getElem? (i := 111) rfl)) rfl
theorem mF_X4_15 : Cond.fieldLink RX4 15 "DugBySaid$Talk" "past" "LDugBySaid$Past;" ∈ wsA := inA (tb1 (List.mem_of_getElem? (i := 112) rfl)) rfl
theorem mQ_X5_42 : Cond.classLink RX5 42 RX3 ∈ wsA := inA (tb1 (List.mem_of_getElem? (i := 118) rfl)) rfl
theorem mB_X3 : Cond.instantiable RX3 4 ∈ wsA := inA (tb1 (List.mem_of_getElem? (i := 119) rfl)) rfl
theorem mL_X5_44 : Cond.methodLink RX5 44 yX3_init ∈ wsA := inA (tb1 (List.mem_of_getElem? (i := 120) rfl)) rfl
theorem mI_X3_init : Cond.instanceMethod yX3_init ∈ wsA := inA (tb1 (List.mem_of_getElem? (i := 121) rfl)) rfl
theorem mC_X3_init : Cond.code yX3_init cX3_init 4 none ∈ wsA := inA (tb1 (List.mem_of_getElem? (i := 122) rfl)) rfl
theorem mL_X3_3 : Cond.methodLink RX3 3 objectInit ∈ wsA := inA (tb1 (List.mem_of_getElem? (i := 123) rfl)) rfl
theorem mF_X3_9 : Cond.fieldLink RX3 9 "DugBySaid$Riddle" "hill" "LDugBySaid$Hill;" ∈ wsA := inA (tb1 (List.mem_of_getElem? (i := 124) rfl)) rfl
theorem mF_X3_15 : Cond.fieldLink RX3 15 "DugBySaid$Riddle" "past" "LDugBySaid$Past;" ∈ wsA := inA (tb1 (List.mem_of_getElem? (i := 125) rfl)) rfl
theorem mF_X3_19 : Cond.fieldLink RX3 19 "DugBySaid$Riddle" "talk" "LDugBySaid$Talk;" ∈ wsA := inA (tb1 (List.mem_of_getElem? (i := 126) rfl)) rfl
theorem mF_X3_23 : Cond.fieldLink RX3 23 "DugBySaid$Riddle" "left" "[I" ∈ wsA := inA (tb1 (List.mem_of_getElem? (i := 127) rfl)) rfl
theorem mF_X5_10 : Cond.fieldLink RX5 10 "DugBySaid" "page" "LDugBySaid$Page;" ∈ wsA := inA (tb1 (List.mem_of_getElem? (i := 137) rfl)) rfl
theorem mF_X5_19 : Cond.fieldLink RX5 19 "DugBySaid" "ground" "LDugBySaid$Hill;" ∈ wsA := inA (tb1 (List.mem_of_getElem? (i := 138) rfl)) rfl
theorem mF_X5_26 : Cond.fieldLink RX5 26 "DugBySaid" "now" "LDugBySaid$Past;" ∈ wsA := inA (tb1 (List.mem_of_getElem? (i := 139) rfl)) rfl
theorem mF_X5_30 : Cond.fieldLink RX5 30 "DugBySaid" "kept" "LDugBySaid$Past;" ∈ wsA := inA (tb1 (List.mem_of_getElem? (i := 140) rfl)) rfl
theorem mF_X5_38 : Cond.fieldLink RX5 38 "DugBySaid" "talk" "LDugBySaid$Talk;" ∈ wsA := inA (tb1 (List.mem_of_getElem? (i := 141) rfl)) rfl
theorem mF_X5_47 : Cond.fieldLink RX5 47 "DugBySaid" "riddle" "LDugBySaid$Riddle;" ∈ wsA := inA (tb1 (List.mem_of_getElem? (i := 142) rfl)) rfl
theorem mF_X5_51 : Cond.fieldLink RX5 51 "DugBySaid" "hasImage" "Z" ∈ wsA := inA (tb1 (List.mem_of_getElem? (i := 143) rfl)) rfl
theorem mF_X5_55 : Cond.fieldLink RX5 55 "DugBySaid" "readings" "I" ∈ wsA := inA (tb1 (List.mem_of_getElem? (i := 144) rfl)) rfl
theorem mL_L_13 : Cond.methodLink RL 13 yX5_letter ∈ wsA := inA (tb1 (List.mem_of_getElem? (i := 162) rfl)) rfl
theorem mI_X5_letter : Cond.instanceMethod yX5_letter ∈ wsA := inA (tb1 (List.mem_of_getElem? (i := 163) rfl)) rfl
theorem mS_X5_letter : Cond.selects RX5 yX5_letter yX5_letter ∈ wsA := inA (tb1 (List.mem_of_getElem? (i := 164) rfl)) rfl
theorem mC_X5_letter : Cond.code yX5_letter cX5_letter 2 (some .int) ∈ wsA := inA (tb1 (List.mem_of_getElem? (i := 165) rfl)) rfl
theorem mL_X5_59 : Cond.methodLink RX5 59 yX1_put ∈ wsA := inA (tb1 (List.mem_of_getElem? (i := 166) rfl)) rfl
theorem mI_X1_put : Cond.instanceMethod yX1_put ∈ wsA := inA (tb1 (List.mem_of_getElem? (i := 167) rfl)) rfl
theorem mS_X1_put : Cond.selects RX1 yX1_put yX1_put ∈ wsA := inA (tb1 (List.mem_of_getElem? (i := 168) rfl)) rfl
theorem mC_X1_put : Cond.code yX1_put cX1_put 2 (some .boolean) ∈ wsA := inA (tb1 (List.mem_of_getElem? (i := 169) rfl)) rfl
theorem mL_L_18 : Cond.methodLink RL 18 yX5_blank ∈ wsA := inA (tb1 (List.mem_of_getElem? (i := 170) rfl)) rfl
theorem mI_X5_blank : Cond.instanceMethod yX5_blank ∈ wsA := inA (tb1 (List.mem_of_getElem? (i := 171) rfl)) rfl
theorem mS_X5_blank : Cond.selects RX5 yX5_blank yX5_blank ∈ wsA := inA (tb1 (List.mem_of_getElem? (i := 172) rfl)) rfl
theorem mC_X5_blank : Cond.code yX5_blank cX5_blank 2 (some .int) ∈ wsA := inA (tb1 (List.mem_of_getElem? (i := 173) rfl)) rfl
theorem mL_X5_66 : Cond.methodLink RX5 66 yX1_clear ∈ wsA := inA (tb1 (List.mem_of_getElem? (i := 174) rfl)) rfl
theorem mI_X1_clear : Cond.instanceMethod yX1_clear ∈ wsA := inA (tb1 (List.mem_of_getElem? (i := 175) rfl)) rfl
theorem mS_X1_clear : Cond.selects RX1 yX1_clear yX1_clear ∈ wsA := inA (tb1 (List.mem_of_getElem? (i := 176) rfl)) rfl
theorem mC_X1_clear : Cond.code yX1_clear cX1_clear 1 none ∈ wsA := inA (tb1 (List.mem_of_getElem? (i := 177) rfl)) rfl
theorem mL_L_23 : Cond.methodLink RL 23 yX5_fault ∈ wsA := inA (tb1 (List.mem_of_getElem? (i := 178) rfl)) rfl
theorem mI_X5_fault : Cond.instanceMethod yX5_fault ∈ wsA := inA (tb1 (List.mem_of_getElem? (i := 179) rfl)) rfl
theorem mS_X5_fault : Cond.selects RX5 yX5_fault yX5_fault ∈ wsA := inA (tb1 (List.mem_of_getElem? (i := 180) rfl)) rfl
theorem mC_X5_fault : Cond.code yX5_fault cX5_fault 1 (some .int) ∈ wsA := inA (tb1 (List.mem_of_getElem? (i := 181) rfl)) rfl
theorem mL_X5_69 : Cond.methodLink RX5 69 yX1_firstFault ∈ wsA := inA (tb1 (List.mem_of_getElem? (i := 182) rfl)) rfl
theorem mI_X1_firstFault : Cond.instanceMethod yX1_firstFault ∈ wsA := inA (tb1 (List.mem_of_getElem? (i := 183) rfl)) rfl
theorem mS_X1_firstFault : Cond.selects RX1 yX1_firstFault yX1_firstFault ∈ wsA := inA (tb1 (List.mem_of_getElem? (i := 184) rfl)) rfl
theorem mC_X1_firstFault : Cond.code yX1_firstFault cX1_firstFault 2 (some .int) ∈ wsA := inA (tb1 (List.mem_of_getElem? (i := 185) rfl)) rfl
theorem mL_X1_19 : Cond.methodLink RX1 19 yX1_fits ∈ wsA := inA (tb1 (List.mem_of_getElem? (i := 186) rfl)) rfl
theorem mI_X1_fits : Cond.instanceMethod yX1_fits ∈ wsA := inA (tb1 (List.mem_of_getElem? (i := 188) rfl)) rfl
theorem mC_X1_fits : Cond.code yX1_fits cX1_fits 4 (some .boolean) ∈ wsA := inA (tb1 (List.mem_of_getElem? (i := 189) rfl)) rfl
theorem mL_X1_23 : Cond.methodLink RX1 23 yX1_codeAt ∈ wsA := inA (tb1 (List.mem_of_getElem? (i := 190) rfl)) rfl
theorem mI_X1_codeAt : Cond.instanceMethod yX1_codeAt ∈ wsA := inA (tb1 (List.mem_of_getElem? (i := 191) rfl)) rfl
theorem mS_X1_codeAt : Cond.selects RX1 yX1_codeAt yX1_codeAt ∈ wsA := inA (tb1 (List.mem_of_getElem? (i := 192) rfl)) rfl
theorem mC_X1_codeAt : Cond.code yX1_codeAt cX1_codeAt 2 (some .int) ∈ wsA := inA (tb1 (List.mem_of_getElem? (i := 193) rfl)) rfl
theorem mL_X1_31 : Cond.methodLink RX1 31 yX1_kindOfLetter ∈ wsA := inA (tb1 (List.mem_of_getElem? (i := 194) rfl)) rfl
theorem mT_X1_kindOfLetter : Cond.static yX1_kindOfLetter ∈ wsA := inA (tb1 (List.mem_of_getElem? (i := 195) rfl)) rfl
theorem mC_X1_kindOfLetter : Cond.code yX1_kindOfLetter cX1_kindOfLetter 1 (some .int) ∈ wsA := inA (tb1 (List.mem_of_getElem? (i := 196) rfl)) rfl
theorem mL_X1_36 : Cond.methodLink RX1 36 yJ0_indexOf_0f7a4 ∈ wsA := inA (tb1 (List.mem_of_getElem? (i := 198) rfl)) rfl
theorem mI_J0_indexOf_0f7a4 : Cond.instanceMethod yJ0_indexOf_0f7a4 ∈ wsA := inA (tb1 (List.mem_of_getElem? (i := 199) rfl)) rfl
theorem mS_J0_indexOf_0f7a4 : Cond.selects RJ0 yJ0_indexOf_0f7a4 yJ0_indexOf_0f7a4 ∈ wsA := inA (tb1 (List.mem_of_getElem? (i := 200) rfl)) rfl
theorem mC_J0_indexOf_0f7a4 : Cond.code yJ0_indexOf_0f7a4 cJ0_indexOf_0f7a4 2 (some .int) ∈ wsA := inA (tb1 (List.mem_of_getElem? (i := 201) rfl)) rfl
theorem mL_J0_633 : Cond.methodLink RJ0 633 yJ0_indexOf_7cf53 ∈ wsA := inA (tb1 (List.mem_of_getElem? (i := 202) rfl)) rfl
theorem mI_J0_indexOf_7cf53 : Cond.instanceMethod yJ0_indexOf_7cf53 ∈ wsA := inA (tb1 (List.mem_of_getElem? (i := 203) rfl)) rfl
theorem mS_J0_indexOf_7cf53 : Cond.selects RJ0 yJ0_indexOf_7cf53 yJ0_indexOf_7cf53 ∈ wsA := inA (tb1 (List.mem_of_getElem? (i := 204) rfl)) rfl
theorem mC_J0_indexOf_7cf53 : Cond.code yJ0_indexOf_7cf53 cJ0_indexOf_7cf53 3 (some .int) ∈ wsA := inA (tb1 (List.mem_of_getElem? (i := 205) rfl)) rfl
theorem mL_J0_492 : Cond.methodLink RJ0 492 yJ0_isLatin1_aae02 ∈ wsA := inA (tb1 (List.mem_of_getElem? (i := 206) rfl)) rfl
theorem mI_J0_isLatin1_aae02 : Cond.instanceMethod yJ0_isLatin1_aae02 ∈ wsA := inA (tb1 (List.mem_of_getElem? (i := 207) rfl)) rfl
theorem mS_J0_isLatin1_aae02 : Cond.selects RJ0 yJ0_isLatin1_aae02 yJ0_isLatin1_aae02 ∈ wsA := inA (tb1 (List.mem_of_getElem? (i := 208) rfl)) rfl
theorem mC_J0_isLatin1_aae02 : Cond.code yJ0_isLatin1_aae02 cJ0_isLatin1_aae02 1 (some .boolean) ∈ wsA := inA (tb1 (List.mem_of_getElem? (i := 209) rfl)) rfl
theorem mF_J0_38 : Cond.fieldLink RJ0 38 "java/lang/String" "COMPACT_STRINGS" "Z" ∈ wsA := inA (tb1 (List.mem_of_getElem? (i := 210) rfl)) rfl
theorem mL_J0_505 : Cond.methodLink RJ0 505 yJ0_length_8abf5 ∈ wsA := inA (tb1 (List.mem_of_getElem? (i := 212) rfl)) rfl
theorem mI_J0_length_8abf5 : Cond.instanceMethod yJ0_length_8abf5 ∈ wsA := inA (tb1 (List.mem_of_getElem? (i := 213) rfl)) rfl
theorem mS_J0_length_8abf5 : Cond.selects RJ0 yJ0_length_8abf5 yJ0_length_8abf5 ∈ wsA := inA (tb1 (List.mem_of_getElem? (i := 214) rfl)) rfl
theorem mC_J0_length_8abf5 : Cond.code yJ0_length_8abf5 cJ0_length_8abf5 1 (some .int) ∈ wsA := inA (tb1 (List.mem_of_getElem? (i := 215) rfl)) rfl
theorem mL_J0_335 : Cond.methodLink RJ0 335 yJ0_coder_7d493 ∈ wsA := inA (tb1 (List.mem_of_getElem? (i := 216) rfl)) rfl
theorem mI_J0_coder_7d493 : Cond.instanceMethod yJ0_coder_7d493 ∈ wsA := inA (tb1 (List.mem_of_getElem? (i := 217) rfl)) rfl
theorem mS_J0_coder_7d493 : Cond.selects RJ0 yJ0_coder_7d493 yJ0_coder_7d493 ∈ wsA := inA (tb1 (List.mem_of_getElem? (i := 218) rfl)) rfl
theorem mC_J0_coder_7d493 : Cond.code yJ0_coder_7d493 cJ0_coder_7d493 1 (some .byte) ∈ wsA := inA (tb1 (List.mem_of_getElem? (i := 219) rfl)) rfl
theorem mL_J0_637 : Cond.methodLink RJ0 637 yJ1_indexOf_4cfef ∈ wsA := inA (tb1 (List.mem_of_getElem? (i := 220) rfl)) rfl
theorem mT_J1_indexOf_4cfef : Cond.static yJ1_indexOf_4cfef ∈ wsA := inA (tb1 (List.mem_of_getElem? (i := 221) rfl)) rfl
theorem mC_J1_indexOf_4cfef : Cond.code yJ1_indexOf_4cfef cJ1_indexOf_4cfef 4 (some .int) ∈ wsA := inA (tb1 (List.mem_of_getElem? (i := 222) rfl)) rfl
theorem mL_J1_88 : Cond.methodLink RJ1 88 yJ1_canEncode_9a6ad ∈ wsA := inA (tb1 (List.mem_of_getElem? (i := 223) rfl)) rfl
theorem mT_J1_canEncode_9a6ad : Cond.static yJ1_canEncode_9a6ad ∈ wsA := inA (tb1 (List.mem_of_getElem? (i := 224) rfl)) rfl
theorem mC_J1_canEncode_9a6ad : Cond.code yJ1_canEncode_9a6ad cJ1_canEncode_9a6ad 1 (some .boolean) ∈ wsA := inA (tb1 (List.mem_of_getElem? (i := 225) rfl)) rfl
theorem mL_J1_92 : Cond.methodLink RJ1 92 Lib.Math.max.name ∈ wsA := inA (tb1 (List.mem_of_getElem? (i := 226) rfl)) rfl
theorem mT_Lib_Math_max_name : Cond.static Lib.Math.max.name ∈ wsA := inA (tb1 (List.mem_of_getElem? (i := 227) rfl)) rfl
theorem mC_Lib_Math_max_name : Cond.code Lib.Math.max.name Lib.Math.max.code 2 (some .int) ∈ wsA := inA (tb1 (List.mem_of_getElem? (i := 228) rfl)) rfl
theorem mL_J1_38 : Cond.methodLink RJ1 38 Lib.Math.min.name ∈ wsA := inA (tb1 (List.mem_of_getElem? (i := 229) rfl)) rfl
theorem mT_Lib_Math_min_name : Cond.static Lib.Math.min.name ∈ wsA := inA (tb1 (List.mem_of_getElem? (i := 230) rfl)) rfl
theorem mC_Lib_Math_min_name : Cond.code Lib.Math.min.name Lib.Math.min.code 2 (some .int) ∈ wsA := inA (tb1 (List.mem_of_getElem? (i := 231) rfl)) rfl
theorem mL_J1_95 : Cond.methodLink RJ1 95 yJ1_indexOfChar_4cfef ∈ wsA := inA (tb1 (List.mem_of_getElem? (i := 232) rfl)) rfl
theorem mT_J1_indexOfChar_4cfef : Cond.static yJ1_indexOfChar_4cfef ∈ wsA := inA (tb1 (List.mem_of_getElem? (i := 233) rfl)) rfl
theorem mC_J1_indexOfChar_4cfef : Cond.code yJ1_indexOfChar_4cfef cJ1_indexOfChar_4cfef 6 (some .int) ∈ wsA := inA (tb1 (List.mem_of_getElem? (i := 234) rfl)) rfl
theorem mL_J0_640 : Cond.methodLink RJ0 640 yJ2_indexOf_4cfef ∈ wsA := inA (tb1 (List.mem_of_getElem? (i := 235) rfl)) rfl
theorem mT_J2_indexOf_4cfef : Cond.static yJ2_indexOf_4cfef ∈ wsA := inA (tb1 (List.mem_of_getElem? (i := 236) rfl)) rfl
theorem mC_J2_indexOf_4cfef : Cond.code yJ2_indexOf_4cfef cJ2_indexOf_4cfef 4 (some .int) ∈ wsA := inA (tb1 (List.mem_of_getElem? (i := 237) rfl)) rfl
theorem mL_J2_224 : Cond.methodLink RJ2 224 Lib.Math.max.name ∈ wsA := inA (tb1 (List.mem_of_getElem? (i := 238) rfl)) rfl
theorem mL_J2_183 : Cond.methodLink RJ2 183 Lib.Math.min.name ∈ wsA := inA (tb1 (List.mem_of_getElem? (i := 239) rfl)) rfl
theorem mK_J2_227 : Cond.constant RJ2 227 (65536) ∈ wsA := inA (tb2 (List.mem_of_getElem? (i := 0) rfl)) rfl
theorem mL_J2_228 : Cond.methodLink RJ2 228 yJ2_indexOfChar_4cfef ∈ wsA := inA (tb2 (List.mem_of_getElem? (i := 1) rfl)) rfl
theorem mT_J2_indexOfChar_4cfef : Cond.static yJ2_indexOfChar_4cfef ∈ wsA := inA (tb2 (List.mem_of_getElem? (i := 2) rfl)) rfl
theorem mC_J2_indexOfChar_4cfef : Cond.code yJ2_indexOfChar_4cfef cJ2_indexOfChar_4cfef 4 (some .int) ∈ wsA := inA (tb2 (List.mem_of_getElem? (i := 3) rfl)) rfl
theorem mL_J2_96 : Cond.methodLink RJ2 96 yJ2_checkBoundsBeginEnd_d044e ∈ wsA := inA (tb2 (List.mem_of_getElem? (i := 4) rfl)) rfl
theorem mT_J2_checkBoundsBeginEnd_d044e : Cond.static yJ2_checkBoundsBeginEnd_d044e ∈ wsA := inA (tb2 (List.mem_of_getElem? (i := 5) rfl)) rfl
theorem mC_J2_checkBoundsBeginEnd_d044e : Cond.code yJ2_checkBoundsBeginEnd_d044e cJ2_checkBoundsBeginEnd_d044e 3 none ∈ wsA := inA (tb2 (List.mem_of_getElem? (i := 6) rfl)) rfl
theorem mL_J2_48 : Cond.methodLink RJ2 48 yJ2_length_9d52b ∈ wsA := inA (tb2 (List.mem_of_getElem? (i := 7) rfl)) rfl
theorem mT_J2_length_9d52b : Cond.static yJ2_length_9d52b ∈ wsA := inA (tb2 (List.mem_of_getElem? (i := 8) rfl)) rfl
theorem mC_J2_length_9d52b : Cond.code yJ2_length_9d52b cJ2_length_9d52b 1 (some .int) ∈ wsA := inA (tb2 (List.mem_of_getElem? (i := 9) rfl)) rfl
theorem mL_J2_241 : Cond.methodLink RJ2 241 yJ0_checkBoundsBeginEnd_23922 ∈ wsA := inA (tb2 (List.mem_of_getElem? (i := 10) rfl)) rfl
theorem mT_J0_checkBoundsBeginEnd_23922 : Cond.static yJ0_checkBoundsBeginEnd_23922 ∈ wsA := inA (tb2 (List.mem_of_getElem? (i := 11) rfl)) rfl
theorem mC_J0_checkBoundsBeginEnd_23922 : Cond.code yJ0_checkBoundsBeginEnd_23922 cJ0_checkBoundsBeginEnd_23922 3 none ∈ wsA := inA (tb2 (List.mem_of_getElem? (i := 12) rfl)) rfl
theorem mF_J0_1053 : Cond.fieldLink RJ0 1053 "jdk/internal/util/Preconditions" "SIOOBE_FORMATTER" "Ljava/util/function/BiFunction;" ∈ wsA := inA (tb2 (List.mem_of_getElem? (i := 13) rfl)) rfl
theorem mL_J0_1062 : Cond.methodLink RJ0 1062 yJ3_checkFromToIndex_8c36e ∈ wsA := inA (tb2 (List.mem_of_getElem? (i := 15) rfl)) rfl
theorem mT_J3_checkFromToIndex_8c36e : Cond.static yJ3_checkFromToIndex_8c36e ∈ wsA := inA (tb2 (List.mem_of_getElem? (i := 16) rfl)) rfl
theorem mC_J3_checkFromToIndex_8c36e : Cond.code yJ3_checkFromToIndex_8c36e cJ3_checkFromToIndex_8c36e 4 (some .int) ∈ wsA := inA (tb2 (List.mem_of_getElem? (i := 17) rfl)) rfl
theorem mL_J2_244 : Cond.methodLink RJ2 244 yJ2_indexOfCharUnsafe_4cfef ∈ wsA := inA (tb2 (List.mem_of_getElem? (i := 18) rfl)) rfl
theorem mT_J2_indexOfCharUnsafe_4cfef : Cond.static yJ2_indexOfCharUnsafe_4cfef ∈ wsA := inA (tb2 (List.mem_of_getElem? (i := 19) rfl)) rfl
theorem mC_J2_indexOfCharUnsafe_4cfef : Cond.code yJ2_indexOfCharUnsafe_4cfef cJ2_indexOfCharUnsafe_4cfef 5 (some .int) ∈ wsA := inA (tb2 (List.mem_of_getElem? (i := 20) rfl)) rfl
theorem mL_J2_71 : Cond.methodLink RJ2 71 yJ2_getChar_3b067 ∈ wsA := inA (tb2 (List.mem_of_getElem? (i := 21) rfl)) rfl
theorem mT_J2_getChar_3b067 : Cond.static yJ2_getChar_3b067 ∈ wsA := inA (tb2 (List.mem_of_getElem? (i := 22) rfl)) rfl
theorem mC_J2_getChar_3b067 : Cond.code yJ2_getChar_3b067 cJ2_getChar_3b067 2 (some .char) ∈ wsA := inA (tb2 (List.mem_of_getElem? (i := 23) rfl)) rfl
theorem mF_J2_44 : Cond.fieldLink RJ2 44 "java/lang/StringUTF16" "$assertionsDisabled" "Z" ∈ wsA := inA (tb2 (List.mem_of_getElem? (i := 24) rfl)) rfl
theorem mF_J2_59 : Cond.fieldLink RJ2 59 "java/lang/StringUTF16" "HI_BYTE_SHIFT" "I" ∈ wsA := inA (tb2 (List.mem_of_getElem? (i := 26) rfl)) rfl
theorem mF_J2_63 : Cond.fieldLink RJ2 63 "java/lang/StringUTF16" "LO_BYTE_SHIFT" "I" ∈ wsA := inA (tb2 (List.mem_of_getElem? (i := 28) rfl)) rfl
theorem mL_J2_232 : Cond.methodLink RJ2 232 yJ2_indexOfSupplementary_4cfef ∈ wsA := inA (tb2 (List.mem_of_getElem? (i := 30) rfl)) rfl
theorem mT_J2_indexOfSupplementary_4cfef : Cond.static yJ2_indexOfSupplementary_4cfef ∈ wsA := inA (tb2 (List.mem_of_getElem? (i := 31) rfl)) rfl
theorem mC_J2_indexOfSupplementary_4cfef : Cond.code yJ2_indexOfSupplementary_4cfef cJ2_indexOfSupplementary_4cfef 7 (some .int) ∈ wsA := inA (tb2 (List.mem_of_getElem? (i := 32) rfl)) rfl
theorem mL_J2_164 : Cond.methodLink RJ2 164 yJ11_isValidCodePoint_9a6ad ∈ wsA := inA (tb2 (List.mem_of_getElem? (i := 33) rfl)) rfl
theorem mT_J11_isValidCodePoint_9a6ad : Cond.static yJ11_isValidCodePoint_9a6ad ∈ wsA := inA (tb2 (List.mem_of_getElem? (i := 34) rfl)) rfl
theorem mC_J11_isValidCodePoint_9a6ad : Cond.code yJ11_isValidCodePoint_9a6ad cJ11_isValidCodePoint_9a6ad 2 (some .boolean) ∈ wsA := inA (tb2 (List.mem_of_getElem? (i := 35) rfl)) rfl
theorem mL_J2_157 : Cond.methodLink RJ2 157 yJ11_highSurrogate_5068e ∈ wsA := inA (tb2 (List.mem_of_getElem? (i := 36) rfl)) rfl
theorem mT_J11_highSurrogate_5068e : Cond.static yJ11_highSurrogate_5068e ∈ wsA := inA (tb2 (List.mem_of_getElem? (i := 37) rfl)) rfl
theorem mC_J11_highSurrogate_5068e : Cond.code yJ11_highSurrogate_5068e cJ11_highSurrogate_5068e 1 (some .char) ∈ wsA := inA (tb2 (List.mem_of_getElem? (i := 38) rfl)) rfl
theorem mK_J11_110 : Cond.constant RJ11 110 (55232) ∈ wsA := inA (tb2 (List.mem_of_getElem? (i := 39) rfl)) rfl
theorem mL_J2_161 : Cond.methodLink RJ2 161 yJ11_lowSurrogate_5068e ∈ wsA := inA (tb2 (List.mem_of_getElem? (i := 40) rfl)) rfl
theorem mT_J11_lowSurrogate_5068e : Cond.static yJ11_lowSurrogate_5068e ∈ wsA := inA (tb2 (List.mem_of_getElem? (i := 41) rfl)) rfl
theorem mC_J11_lowSurrogate_5068e : Cond.code yJ11_lowSurrogate_5068e cJ11_lowSurrogate_5068e 1 (some .char) ∈ wsA := inA (tb2 (List.mem_of_getElem? (i := 42) rfl)) rfl
theorem mK_J11_76 : Cond.constant RJ11 76 (56320) ∈ wsA := inA (tb2 (List.mem_of_getElem? (i := 43) rfl)) rfl
theorem mA_byte : Cond.arrayClass .byte ∈ wsA := inA (tb2 (List.mem_of_getElem? (i := 44) rfl)) rfl
theorem mL_L_27 : Cond.methodLink RL 27 yX5_hill ∈ wsA := inA (tb2 (List.mem_of_getElem? (i := 45) rfl)) rfl
theorem mI_X5_hill : Cond.instanceMethod yX5_hill ∈ wsA := inA (tb2 (List.mem_of_getElem? (i := 46) rfl)) rfl
theorem mS_X5_hill : Cond.selects RX5 yX5_hill yX5_hill ∈ wsA := inA (tb2 (List.mem_of_getElem? (i := 47) rfl)) rfl
theorem mC_X5_hill : Cond.code yX5_hill cX5_hill 3 (some .int) ∈ wsA := inA (tb2 (List.mem_of_getElem? (i := 48) rfl)) rfl
theorem mL_X5_73 : Cond.methodLink RX5 73 yX1_isHill ∈ wsA := inA (tb2 (List.mem_of_getElem? (i := 49) rfl)) rfl
theorem mI_X1_isHill : Cond.instanceMethod yX1_isHill ∈ wsA := inA (tb2 (List.mem_of_getElem? (i := 50) rfl)) rfl
theorem mS_X1_isHill : Cond.selects RX1 yX1_isHill yX1_isHill ∈ wsA := inA (tb2 (List.mem_of_getElem? (i := 51) rfl)) rfl
theorem mC_X1_isHill : Cond.code yX1_isHill cX1_isHill 1 (some .boolean) ∈ wsA := inA (tb2 (List.mem_of_getElem? (i := 52) rfl)) rfl
theorem mL_X1_27 : Cond.methodLink RX1 27 yX1_firstFault ∈ wsA := inA (tb2 (List.mem_of_getElem? (i := 53) rfl)) rfl
theorem mL_X5_77 : Cond.methodLink RX5 77 yX0_read ∈ wsA := inA (tb2 (List.mem_of_getElem? (i := 54) rfl)) rfl
theorem mI_X0_read : Cond.instanceMethod yX0_read ∈ wsA := inA (tb2 (List.mem_of_getElem? (i := 55) rfl)) rfl
theorem mS_X0_read : Cond.selects RX0 yX0_read yX0_read ∈ wsA := inA (tb2 (List.mem_of_getElem? (i := 56) rfl)) rfl
theorem mC_X0_read : Cond.code yX0_read cX0_read 3 none ∈ wsA := inA (tb2 (List.mem_of_getElem? (i := 57) rfl)) rfl
theorem mL_X0_22 : Cond.methodLink RX0 22 yX1_peopleWritten ∈ wsA := inA (tb2 (List.mem_of_getElem? (i := 58) rfl)) rfl
theorem mI_X1_peopleWritten : Cond.instanceMethod yX1_peopleWritten ∈ wsA := inA (tb2 (List.mem_of_getElem? (i := 59) rfl)) rfl
theorem mS_X1_peopleWritten : Cond.selects RX1 yX1_peopleWritten yX1_peopleWritten ∈ wsA := inA (tb2 (List.mem_of_getElem? (i := 60) rfl)) rfl
theorem mC_X1_peopleWritten : Cond.code yX1_peopleWritten cX1_peopleWritten 1 (some .int) ∈ wsA := inA (tb2 (List.mem_of_getElem? (i := 61) rfl)) rfl
theorem mL_X0_28 : Cond.methodLink RX0 28 Lib.Math.min.name ∈ wsA := inA (tb2 (List.mem_of_getElem? (i := 62) rfl)) rfl
theorem mL_X0_34 : Cond.methodLink RX0 34 yX1_riverWritten ∈ wsA := inA (tb2 (List.mem_of_getElem? (i := 63) rfl)) rfl
theorem mI_X1_riverWritten : Cond.instanceMethod yX1_riverWritten ∈ wsA := inA (tb2 (List.mem_of_getElem? (i := 64) rfl)) rfl
theorem mS_X1_riverWritten : Cond.selects RX1 yX1_riverWritten yX1_riverWritten ∈ wsA := inA (tb2 (List.mem_of_getElem? (i := 65) rfl)) rfl
theorem mC_X1_riverWritten : Cond.code yX1_riverWritten cX1_riverWritten 1 (some .int) ∈ wsA := inA (tb2 (List.mem_of_getElem? (i := 66) rfl)) rfl
theorem mL_X0_37 : Cond.methodLink RX0 37 yX1_kindWritten ∈ wsA := inA (tb2 (List.mem_of_getElem? (i := 67) rfl)) rfl
theorem mI_X1_kindWritten : Cond.instanceMethod yX1_kindWritten ∈ wsA := inA (tb2 (List.mem_of_getElem? (i := 68) rfl)) rfl
theorem mS_X1_kindWritten : Cond.selects RX1 yX1_kindWritten yX1_kindWritten ∈ wsA := inA (tb2 (List.mem_of_getElem? (i := 69) rfl)) rfl
theorem mC_X1_kindWritten : Cond.code yX1_kindWritten cX1_kindWritten 2 (some .int) ∈ wsA := inA (tb2 (List.mem_of_getElem? (i := 70) rfl)) rfl
theorem mL_X5_81 : Cond.methodLink RX5 81 yX2_begin ∈ wsA := inA (tb2 (List.mem_of_getElem? (i := 71) rfl)) rfl
theorem mI_X2_begin : Cond.instanceMethod yX2_begin ∈ wsA := inA (tb2 (List.mem_of_getElem? (i := 72) rfl)) rfl
theorem mS_X2_begin : Cond.selects RX2 yX2_begin yX2_begin ∈ wsA := inA (tb2 (List.mem_of_getElem? (i := 73) rfl)) rfl
theorem mC_X2_begin : Cond.code yX2_begin cX2_begin 2 none ∈ wsA := inA (tb2 (List.mem_of_getElem? (i := 74) rfl)) rfl
theorem mL_X2_43 : Cond.methodLink RX2 43 yX2_setNext ∈ wsA := inA (tb2 (List.mem_of_getElem? (i := 75) rfl)) rfl
theorem mI_X2_setNext : Cond.instanceMethod yX2_setNext ∈ wsA := inA (tb2 (List.mem_of_getElem? (i := 76) rfl)) rfl
theorem mS_X2_setNext : Cond.selects RX2 yX2_setNext yX2_setNext ∈ wsA := inA (tb2 (List.mem_of_getElem? (i := 77) rfl)) rfl
theorem mC_X2_setNext : Cond.code yX2_setNext cX2_setNext 4 none ∈ wsA := inA (tb2 (List.mem_of_getElem? (i := 78) rfl)) rfl
theorem mL_X5_87 : Cond.methodLink RX5 87 yX1_nextWritten ∈ wsA := inA (tb2 (List.mem_of_getElem? (i := 79) rfl)) rfl
theorem mI_X1_nextWritten : Cond.instanceMethod yX1_nextWritten ∈ wsA := inA (tb2 (List.mem_of_getElem? (i := 80) rfl)) rfl
theorem mS_X1_nextWritten : Cond.selects RX1 yX1_nextWritten yX1_nextWritten ∈ wsA := inA (tb2 (List.mem_of_getElem? (i := 81) rfl)) rfl
theorem mC_X1_nextWritten : Cond.code yX1_nextWritten cX1_nextWritten 2 (some .int) ∈ wsA := inA (tb2 (List.mem_of_getElem? (i := 82) rfl)) rfl
theorem mL_X5_91 : Cond.methodLink RX5 91 yX0_has ∈ wsA := inA (tb2 (List.mem_of_getElem? (i := 83) rfl)) rfl
theorem mI_X0_has : Cond.instanceMethod yX0_has ∈ wsA := inA (tb2 (List.mem_of_getElem? (i := 84) rfl)) rfl
theorem mS_X0_has : Cond.selects RX0 yX0_has yX0_has ∈ wsA := inA (tb2 (List.mem_of_getElem? (i := 85) rfl)) rfl
theorem mC_X0_has : Cond.code yX0_has cX0_has 2 (some .boolean) ∈ wsA := inA (tb2 (List.mem_of_getElem? (i := 86) rfl)) rfl
theorem mL_X5_94 : Cond.methodLink RX5 94 yX5_point ∈ wsA := inA (tb2 (List.mem_of_getElem? (i := 87) rfl)) rfl
theorem mI_X5_point : Cond.instanceMethod yX5_point ∈ wsA := inA (tb2 (List.mem_of_getElem? (i := 89) rfl)) rfl
theorem mC_X5_point : Cond.code yX5_point cX5_point 4 none ∈ wsA := inA (tb2 (List.mem_of_getElem? (i := 90) rfl)) rfl
theorem mL_X5_123 : Cond.methodLink RX5 123 yX0_listeners ∈ wsA := inA (tb2 (List.mem_of_getElem? (i := 91) rfl)) rfl
theorem mI_X0_listeners : Cond.instanceMethod yX0_listeners ∈ wsA := inA (tb2 (List.mem_of_getElem? (i := 92) rfl)) rfl
theorem mS_X0_listeners : Cond.selects RX0 yX0_listeners yX0_listeners ∈ wsA := inA (tb2 (List.mem_of_getElem? (i := 93) rfl)) rfl
theorem mC_X0_listeners : Cond.code yX0_listeners cX0_listeners 6 (some .int) ∈ wsA := inA (tb2 (List.mem_of_getElem? (i := 94) rfl)) rfl
theorem mL_X0_41 : Cond.methodLink RX0 41 yX0_kindOf ∈ wsA := inA (tb2 (List.mem_of_getElem? (i := 95) rfl)) rfl
theorem mI_X0_kindOf : Cond.instanceMethod yX0_kindOf ∈ wsA := inA (tb2 (List.mem_of_getElem? (i := 96) rfl)) rfl
theorem mS_X0_kindOf : Cond.selects RX0 yX0_kindOf yX0_kindOf ∈ wsA := inA (tb2 (List.mem_of_getElem? (i := 97) rfl)) rfl
theorem mC_X0_kindOf : Cond.code yX0_kindOf cX0_kindOf 2 (some .int) ∈ wsA := inA (tb2 (List.mem_of_getElem? (i := 98) rfl)) rfl
theorem mL_X0_44 : Cond.methodLink RX0 44 yX0_has ∈ wsA := inA (tb2 (List.mem_of_getElem? (i := 99) rfl)) rfl
theorem mT_X5_isOfKind : Cond.static yX5_isOfKind ∈ wsA := inA (tb2 (List.mem_of_getElem? (i := 101) rfl)) rfl
theorem mC_X5_isOfKind : Cond.code yX5_isOfKind cX5_isOfKind 2 (some .boolean) ∈ wsA := inA (tb2 (List.mem_of_getElem? (i := 102) rfl)) rfl
theorem mL_X5_127 : Cond.methodLink RX5 127 yX2_setNext ∈ wsA := inA (tb2 (List.mem_of_getElem? (i := 103) rfl)) rfl
theorem mL_L_31 : Cond.methodLink RL 31 yX5_person ∈ wsA := inA (tb2 (List.mem_of_getElem? (i := 104) rfl)) rfl
theorem mI_X5_person : Cond.instanceMethod yX5_person ∈ wsA := inA (tb2 (List.mem_of_getElem? (i := 105) rfl)) rfl
theorem mS_X5_person : Cond.selects RX5 yX5_person yX5_person ∈ wsA := inA (tb2 (List.mem_of_getElem? (i := 106) rfl)) rfl
theorem mC_X5_person : Cond.code yX5_person cX5_person 3 (some .int) ∈ wsA := inA (tb2 (List.mem_of_getElem? (i := 107) rfl)) rfl
theorem mL_X5_98 : Cond.methodLink RX5 98 yX0_kindOf ∈ wsA := inA (tb2 (List.mem_of_getElem? (i := 108) rfl)) rfl
theorem mL_X5_101 : Cond.methodLink RX5 101 yX2_nextOf ∈ wsA := inA (tb2 (List.mem_of_getElem? (i := 109) rfl)) rfl
theorem mI_X2_nextOf : Cond.instanceMethod yX2_nextOf ∈ wsA := inA (tb2 (List.mem_of_getElem? (i := 110) rfl)) rfl
theorem mS_X2_nextOf : Cond.selects RX2 yX2_nextOf yX2_nextOf ∈ wsA := inA (tb2 (List.mem_of_getElem? (i := 111) rfl)) rfl
theorem mC_X2_nextOf : Cond.code yX2_nextOf cX2_nextOf 2 (some .int) ∈ wsA := inA (tb2 (List.mem_of_getElem? (i := 112) rfl)) rfl
theorem mL_X5_104 : Cond.methodLink RX5 104 yX2_listenersOf ∈ wsA := inA (tb2 (List.mem_of_getElem? (i := 113) rfl)) rfl
theorem mI_X2_listenersOf : Cond.instanceMethod yX2_listenersOf ∈ wsA := inA (tb2 (List.mem_of_getElem? (i := 114) rfl)) rfl
theorem mS_X2_listenersOf : Cond.selects RX2 yX2_listenersOf yX2_listenersOf ∈ wsA := inA (tb2 (List.mem_of_getElem? (i := 115) rfl)) rfl
theorem mC_X2_listenersOf : Cond.code yX2_listenersOf cX2_listenersOf 2 (some .int) ∈ wsA := inA (tb2 (List.mem_of_getElem? (i := 116) rfl)) rfl
theorem mL_X5_107 : Cond.methodLink RX5 107 yX2_tunnelsHeardBy ∈ wsA := inA (tb2 (List.mem_of_getElem? (i := 117) rfl)) rfl
theorem mI_X2_tunnelsHeardBy : Cond.instanceMethod yX2_tunnelsHeardBy ∈ wsA := inA (tb2 (List.mem_of_getElem? (i := 118) rfl)) rfl
theorem mS_X2_tunnelsHeardBy : Cond.selects RX2 yX2_tunnelsHeardBy yX2_tunnelsHeardBy ∈ wsA := inA (tb2 (List.mem_of_getElem? (i := 119) rfl)) rfl
theorem mC_X2_tunnelsHeardBy : Cond.code yX2_tunnelsHeardBy cX2_tunnelsHeardBy 4 (some .int) ∈ wsA := inA (tb2 (List.mem_of_getElem? (i := 120) rfl)) rfl
theorem mT_X5_isIn : Cond.static yX5_isIn ∈ wsA := inA (tb2 (List.mem_of_getElem? (i := 122) rfl)) rfl
theorem mC_X5_isIn : Cond.code yX5_isIn cX5_isIn 2 (some .boolean) ∈ wsA := inA (tb2 (List.mem_of_getElem? (i := 123) rfl)) rfl
theorem mL_X5_110 : Cond.methodLink RX5 110 yX4_ends ∈ wsA := inA (tb2 (List.mem_of_getElem? (i := 124) rfl)) rfl
theorem mI_X4_ends : Cond.instanceMethod yX4_ends ∈ wsA := inA (tb2 (List.mem_of_getElem? (i := 125) rfl)) rfl
theorem mS_X4_ends : Cond.selects RX4 yX4_ends yX4_ends ∈ wsA := inA (tb2 (List.mem_of_getElem? (i := 126) rfl)) rfl
theorem mC_X4_ends : Cond.code yX4_ends cX4_ends 2 (some .int) ∈ wsA := inA (tb2 (List.mem_of_getElem? (i := 127) rfl)) rfl
theorem mL_X4_35 : Cond.methodLink RX4 35 yX4_lengthInTheEnd ∈ wsA := inA (tb2 (List.mem_of_getElem? (i := 128) rfl)) rfl
theorem mI_X4_lengthInTheEnd : Cond.instanceMethod yX4_lengthInTheEnd ∈ wsA := inA (tb2 (List.mem_of_getElem? (i := 129) rfl)) rfl
theorem mS_X4_lengthInTheEnd : Cond.selects RX4 yX4_lengthInTheEnd yX4_lengthInTheEnd ∈ wsA := inA (tb2 (List.mem_of_getElem? (i := 130) rfl)) rfl
theorem mC_X4_lengthInTheEnd : Cond.code yX4_lengthInTheEnd cX4_lengthInTheEnd 7 (some .int) ∈ wsA := inA (tb2 (List.mem_of_getElem? (i := 131) rfl)) rfl
theorem mL_X4_39 : Cond.methodLink RX4 39 yX4_hearers ∈ wsA := inA (tb2 (List.mem_of_getElem? (i := 132) rfl)) rfl
theorem mI_X4_hearers : Cond.instanceMethod yX4_hearers ∈ wsA := inA (tb2 (List.mem_of_getElem? (i := 133) rfl)) rfl
theorem mS_X4_hearers : Cond.selects RX4 yX4_hearers yX4_hearers ∈ wsA := inA (tb2 (List.mem_of_getElem? (i := 134) rfl)) rfl
theorem mC_X4_hearers : Cond.code yX4_hearers cX4_hearers 5 (some .int) ∈ wsA := inA (tb2 (List.mem_of_getElem? (i := 135) rfl)) rfl
theorem mL_X4_29 : Cond.methodLink RX4 29 yX2_listenersOf ∈ wsA := inA (tb2 (List.mem_of_getElem? (i := 137) rfl)) rfl
theorem mL_X4_43 : Cond.methodLink RX4 43 yX0_length ∈ wsA := inA (tb2 (List.mem_of_getElem? (i := 138) rfl)) rfl
theorem mI_X0_length : Cond.instanceMethod yX0_length ∈ wsA := inA (tb2 (List.mem_of_getElem? (i := 139) rfl)) rfl
theorem mS_X0_length : Cond.selects RX0 yX0_length yX0_length ∈ wsA := inA (tb2 (List.mem_of_getElem? (i := 140) rfl)) rfl
theorem mC_X0_length : Cond.code yX0_length cX0_length 6 (some .int) ∈ wsA := inA (tb2 (List.mem_of_getElem? (i := 141) rfl)) rfl
theorem mL_X0_55 : Cond.methodLink RX0 55 yX0_yardsBy ∈ wsA := inA (tb2 (List.mem_of_getElem? (i := 143) rfl)) rfl
theorem mT_X0_yardsBy : Cond.static yX0_yardsBy ∈ wsA := inA (tb2 (List.mem_of_getElem? (i := 144) rfl)) rfl
theorem mC_X0_yardsBy : Cond.code yX0_yardsBy cX0_yardsBy 1 (some .int) ∈ wsA := inA (tb2 (List.mem_of_getElem? (i := 145) rfl)) rfl
theorem mL_X0_58 : Cond.methodLink RX0 58 Lib.Math.max.name ∈ wsA := inA (tb2 (List.mem_of_getElem? (i := 146) rfl)) rfl
theorem mL_X5_113 : Cond.methodLink RX5 113 yX4_lasts ∈ wsA := inA (tb2 (List.mem_of_getElem? (i := 147) rfl)) rfl
theorem mI_X4_lasts : Cond.instanceMethod yX4_lasts ∈ wsA := inA (tb2 (List.mem_of_getElem? (i := 148) rfl)) rfl
theorem mS_X4_lasts : Cond.selects RX4 yX4_lasts yX4_lasts ∈ wsA := inA (tb2 (List.mem_of_getElem? (i := 149) rfl)) rfl
theorem mC_X4_lasts : Cond.code yX4_lasts cX4_lasts 4 (some .int) ∈ wsA := inA (tb2 (List.mem_of_getElem? (i := 150) rfl)) rfl
theorem mL_X4_46 : Cond.methodLink RX4 46 yX4_dayHeard ∈ wsA := inA (tb2 (List.mem_of_getElem? (i := 151) rfl)) rfl
theorem mI_X4_dayHeard : Cond.instanceMethod yX4_dayHeard ∈ wsA := inA (tb2 (List.mem_of_getElem? (i := 152) rfl)) rfl
theorem mS_X4_dayHeard : Cond.selects RX4 yX4_dayHeard yX4_dayHeard ∈ wsA := inA (tb2 (List.mem_of_getElem? (i := 153) rfl)) rfl
theorem mC_X4_dayHeard : Cond.code yX4_dayHeard cX4_dayHeard 6 (some .int) ∈ wsA := inA (tb2 (List.mem_of_getElem? (i := 154) rfl)) rfl
theorem mL_X4_49 : Cond.methodLink RX4 49 Lib.Math.max.name ∈ wsA := inA (tb2 (List.mem_of_getElem? (i := 155) rfl)) rfl
theorem mL_L_36 : Cond.methodLink RL 36 yX5_as ∈ wsA := inA (tb2 (List.mem_of_getElem? (i := 156) rfl)) rfl
theorem mI_X5_as : Cond.instanceMethod yX5_as ∈ wsA := inA (tb2 (List.mem_of_getElem? (i := 157) rfl)) rfl
theorem mS_X5_as : Cond.selects RX5 yX5_as yX5_as ∈ wsA := inA (tb2 (List.mem_of_getElem? (i := 158) rfl)) rfl
theorem mC_X5_as : Cond.code yX5_as cX5_as 3 (some .int) ∈ wsA := inA (tb2 (List.mem_of_getElem? (i := 159) rfl)) rfl
theorem mL_X5_116 : Cond.methodLink RX5 116 yX5_isOfKind ∈ wsA := inA (tb2 (List.mem_of_getElem? (i := 160) rfl)) rfl
theorem mL_L_40 : Cond.methodLink RL 40 yX5_next ∈ wsA := inA (tb2 (List.mem_of_getElem? (i := 161) rfl)) rfl
theorem mI_X5_next : Cond.instanceMethod yX5_next ∈ wsA := inA (tb2 (List.mem_of_getElem? (i := 162) rfl)) rfl
theorem mS_X5_next : Cond.selects RX5 yX5_next yX5_next ∈ wsA := inA (tb2 (List.mem_of_getElem? (i := 163) rfl)) rfl
theorem mC_X5_next : Cond.code yX5_next cX5_next 4 (some .int) ∈ wsA := inA (tb2 (List.mem_of_getElem? (i := 164) rfl)) rfl
theorem mL_L_44 : Cond.methodLink RL 44 yX5_tell ∈ wsA := inA (tb2 (List.mem_of_getElem? (i := 165) rfl)) rfl
theorem mI_X5_tell : Cond.instanceMethod yX5_tell ∈ wsA := inA (tb2 (List.mem_of_getElem? (i := 166) rfl)) rfl
theorem mS_X5_tell : Cond.selects RX5 yX5_tell yX5_tell ∈ wsA := inA (tb2 (List.mem_of_getElem? (i := 167) rfl)) rfl
theorem mC_X5_tell : Cond.code yX5_tell cX5_tell 4 (some .int) ∈ wsA := inA (tb2 (List.mem_of_getElem? (i := 168) rfl)) rfl
theorem mL_X5_131 : Cond.methodLink RX5 131 yX5_isTunnel ∈ wsA := inA (tb2 (List.mem_of_getElem? (i := 169) rfl)) rfl
theorem mI_X5_isTunnel : Cond.instanceMethod yX5_isTunnel ∈ wsA := inA (tb2 (List.mem_of_getElem? (i := 171) rfl)) rfl
theorem mC_X5_isTunnel : Cond.code yX5_isTunnel cX5_isTunnel 2 (some .boolean) ∈ wsA := inA (tb2 (List.mem_of_getElem? (i := 172) rfl)) rfl
theorem mL_X5_144 : Cond.methodLink RX5 144 yX0_isThere ∈ wsA := inA (tb2 (List.mem_of_getElem? (i := 173) rfl)) rfl
theorem mI_X0_isThere : Cond.instanceMethod yX0_isThere ∈ wsA := inA (tb2 (List.mem_of_getElem? (i := 174) rfl)) rfl
theorem mS_X0_isThere : Cond.selects RX0 yX0_isThere yX0_isThere ∈ wsA := inA (tb2 (List.mem_of_getElem? (i := 175) rfl)) rfl
theorem mC_X0_isThere : Cond.code yX0_isThere cX0_isThere 1 (some .boolean) ∈ wsA := inA (tb2 (List.mem_of_getElem? (i := 176) rfl)) rfl
theorem mL_X5_141 : Cond.methodLink RX5 141 yX5_lengthOf ∈ wsA := inA (tb2 (List.mem_of_getElem? (i := 177) rfl)) rfl
theorem mI_X5_lengthOf : Cond.instanceMethod yX5_lengthOf ∈ wsA := inA (tb2 (List.mem_of_getElem? (i := 179) rfl)) rfl
theorem mC_X5_lengthOf : Cond.code yX5_lengthOf cX5_lengthOf 2 (some .int) ∈ wsA := inA (tb2 (List.mem_of_getElem? (i := 180) rfl)) rfl
theorem mL_X5_165 : Cond.methodLink RX5 165 yX0_length ∈ wsA := inA (tb2 (List.mem_of_getElem? (i := 181) rfl)) rfl
theorem mL_L_48 : Cond.methodLink RL 48 yX5_day ∈ wsA := inA (tb2 (List.mem_of_getElem? (i := 182) rfl)) rfl
theorem mI_X5_day : Cond.instanceMethod yX5_day ∈ wsA := inA (tb2 (List.mem_of_getElem? (i := 183) rfl)) rfl
theorem mS_X5_day : Cond.selects RX5 yX5_day yX5_day ∈ wsA := inA (tb2 (List.mem_of_getElem? (i := 184) rfl)) rfl
theorem mC_X5_day : Cond.code yX5_day cX5_day 3 (some .int) ∈ wsA := inA (tb2 (List.mem_of_getElem? (i := 185) rfl)) rfl
theorem mL_X5_150 : Cond.methodLink RX5 150 yX4_hearers ∈ wsA := inA (tb2 (List.mem_of_getElem? (i := 186) rfl)) rfl
theorem mL_X5_153 : Cond.methodLink RX5 153 yJ6_bitCount_0f7a4 ∈ wsA := inA (tb2 (List.mem_of_getElem? (i := 187) rfl)) rfl
theorem mT_J6_bitCount_0f7a4 : Cond.static yJ6_bitCount_0f7a4 ∈ wsA := inA (tb2 (List.mem_of_getElem? (i := 188) rfl)) rfl
theorem mC_J6_bitCount_0f7a4 : Cond.code yJ6_bitCount_0f7a4 cJ6_bitCount_0f7a4 1 (some .int) ∈ wsA := inA (tb2 (List.mem_of_getElem? (i := 189) rfl)) rfl
theorem mK_J6_265 : Cond.constant RJ6 265 (1431655765) ∈ wsA := inA (tb2 (List.mem_of_getElem? (i := 190) rfl)) rfl
theorem mK_J6_266 : Cond.constant RJ6 266 (858993459) ∈ wsA := inA (tb2 (List.mem_of_getElem? (i := 191) rfl)) rfl
theorem mK_J6_267 : Cond.constant RJ6 267 (252645135) ∈ wsA := inA (tb2 (List.mem_of_getElem? (i := 192) rfl)) rfl
theorem mL_L_52 : Cond.methodLink RL 52 yX5_deny ∈ wsA := inA (tb2 (List.mem_of_getElem? (i := 193) rfl)) rfl
theorem mI_X5_deny : Cond.instanceMethod yX5_deny ∈ wsA := inA (tb2 (List.mem_of_getElem? (i := 194) rfl)) rfl
theorem mS_X5_deny : Cond.selects RX5 yX5_deny yX5_deny ∈ wsA := inA (tb2 (List.mem_of_getElem? (i := 195) rfl)) rfl
theorem mC_X5_deny : Cond.code yX5_deny cX5_deny 2 (some .int) ∈ wsA := inA (tb2 (List.mem_of_getElem? (i := 196) rfl)) rfl
theorem mL_L_56 : Cond.methodLink RL 56 yX5_tunnel ∈ wsA := inA (tb2 (List.mem_of_getElem? (i := 197) rfl)) rfl
theorem mI_X5_tunnel : Cond.instanceMethod yX5_tunnel ∈ wsA := inA (tb2 (List.mem_of_getElem? (i := 198) rfl)) rfl
theorem mS_X5_tunnel : Cond.selects RX5 yX5_tunnel yX5_tunnel ∈ wsA := inA (tb2 (List.mem_of_getElem? (i := 199) rfl)) rfl
theorem mC_X5_tunnel : Cond.code yX5_tunnel cX5_tunnel 3 (some .int) ∈ wsA := inA (tb2 (List.mem_of_getElem? (i := 200) rfl)) rfl
theorem mL_X5_161 : Cond.methodLink RX5 161 yX4_lengthInTheEnd ∈ wsA := inA (tb2 (List.mem_of_getElem? (i := 201) rfl)) rfl
theorem mL_L_60 : Cond.methodLink RL 60 yX5_aim ∈ wsA := inA (tb2 (List.mem_of_getElem? (i := 202) rfl)) rfl
theorem mI_X5_aim : Cond.instanceMethod yX5_aim ∈ wsA := inA (tb2 (List.mem_of_getElem? (i := 203) rfl)) rfl
theorem mS_X5_aim : Cond.selects RX5 yX5_aim yX5_aim ∈ wsA := inA (tb2 (List.mem_of_getElem? (i := 204) rfl)) rfl
theorem mC_X5_aim : Cond.code yX5_aim cX5_aim 4 (some .int) ∈ wsA := inA (tb2 (List.mem_of_getElem? (i := 205) rfl)) rfl
theorem mL_X5_167 : Cond.methodLink RX5 167 yX5_fewestToTell ∈ wsA := inA (tb2 (List.mem_of_getElem? (i := 206) rfl)) rfl
theorem mI_X5_fewestToTell : Cond.instanceMethod yX5_fewestToTell ∈ wsA := inA (tb2 (List.mem_of_getElem? (i := 208) rfl)) rfl
theorem mC_X5_fewestToTell : Cond.code yX5_fewestToTell cX5_fewestToTell 5 (some .int) ∈ wsA := inA (tb2 (List.mem_of_getElem? (i := 209) rfl)) rfl
theorem mL_L_64 : Cond.methodLink RL 64 yX5_heard ∈ wsA := inA (tb2 (List.mem_of_getElem? (i := 210) rfl)) rfl
theorem mI_X5_heard : Cond.instanceMethod yX5_heard ∈ wsA := inA (tb2 (List.mem_of_getElem? (i := 211) rfl)) rfl
theorem mS_X5_heard : Cond.selects RX5 yX5_heard yX5_heard ∈ wsA := inA (tb2 (List.mem_of_getElem? (i := 212) rfl)) rfl
theorem mC_X5_heard : Cond.code yX5_heard cX5_heard 3 (some .int) ∈ wsA := inA (tb2 (List.mem_of_getElem? (i := 213) rfl)) rfl
theorem mL_X5_170 : Cond.methodLink RX5 170 yX2_note ∈ wsA := inA (tb2 (List.mem_of_getElem? (i := 214) rfl)) rfl
theorem mI_X2_note : Cond.instanceMethod yX2_note ∈ wsA := inA (tb2 (List.mem_of_getElem? (i := 215) rfl)) rfl
theorem mS_X2_note : Cond.selects RX2 yX2_note yX2_note ∈ wsA := inA (tb2 (List.mem_of_getElem? (i := 216) rfl)) rfl
theorem mC_X2_note : Cond.code yX2_note cX2_note 3 (some .boolean) ∈ wsA := inA (tb2 (List.mem_of_getElem? (i := 217) rfl)) rfl
theorem mL_L_68 : Cond.methodLink RL 68 yX5_forget ∈ wsA := inA (tb2 (List.mem_of_getElem? (i := 218) rfl)) rfl
theorem mI_X5_forget : Cond.instanceMethod yX5_forget ∈ wsA := inA (tb2 (List.mem_of_getElem? (i := 219) rfl)) rfl
theorem mS_X5_forget : Cond.selects RX5 yX5_forget yX5_forget ∈ wsA := inA (tb2 (List.mem_of_getElem? (i := 220) rfl)) rfl
theorem mC_X5_forget : Cond.code yX5_forget cX5_forget 2 (some .int) ∈ wsA := inA (tb2 (List.mem_of_getElem? (i := 221) rfl)) rfl
theorem mL_L_72 : Cond.methodLink RL 72 yX5_began ∈ wsA := inA (tb2 (List.mem_of_getElem? (i := 222) rfl)) rfl
theorem mI_X5_began : Cond.instanceMethod yX5_began ∈ wsA := inA (tb2 (List.mem_of_getElem? (i := 223) rfl)) rfl
theorem mS_X5_began : Cond.selects RX5 yX5_began yX5_began ∈ wsA := inA (tb2 (List.mem_of_getElem? (i := 224) rfl)) rfl
theorem mC_X5_began : Cond.code yX5_began cX5_began 1 (some .int) ∈ wsA := inA (tb2 (List.mem_of_getElem? (i := 225) rfl)) rfl
theorem mL_X5_176 : Cond.methodLink RX5 176 yX3_beginners ∈ wsA := inA (tb2 (List.mem_of_getElem? (i := 226) rfl)) rfl
theorem mI_X3_beginners : Cond.instanceMethod yX3_beginners ∈ wsA := inA (tb2 (List.mem_of_getElem? (i := 227) rfl)) rfl
theorem mS_X3_beginners : Cond.selects RX3 yX3_beginners yX3_beginners ∈ wsA := inA (tb2 (List.mem_of_getElem? (i := 228) rfl)) rfl
theorem mC_X3_beginners : Cond.code yX3_beginners cX3_beginners 3 (some .int) ∈ wsA := inA (tb2 (List.mem_of_getElem? (i := 229) rfl)) rfl
theorem mL_X3_33 : Cond.methodLink RX3 33 yX3_agrees ∈ wsA := inA (tb2 (List.mem_of_getElem? (i := 230) rfl)) rfl
theorem mI_X3_agrees : Cond.instanceMethod yX3_agrees ∈ wsA := inA (tb2 (List.mem_of_getElem? (i := 232) rfl)) rfl
theorem mC_X3_agrees : Cond.code yX3_agrees cX3_agrees 3 (some .boolean) ∈ wsA := inA (tb2 (List.mem_of_getElem? (i := 233) rfl)) rfl
theorem mL_X3_49 : Cond.methodLink RX3 49 yX4_dayHeard ∈ wsA := inA (tb2 (List.mem_of_getElem? (i := 234) rfl)) rfl
theorem mL_L_76 : Cond.methodLink RL 76 yX5_ask ∈ wsA := inA (tb2 (List.mem_of_getElem? (i := 235) rfl)) rfl
theorem mI_X5_ask : Cond.instanceMethod yX5_ask ∈ wsA := inA (tb2 (List.mem_of_getElem? (i := 236) rfl)) rfl
theorem mS_X5_ask : Cond.selects RX5 yX5_ask yX5_ask ∈ wsA := inA (tb2 (List.mem_of_getElem? (i := 237) rfl)) rfl
theorem mC_X5_ask : Cond.code yX5_ask cX5_ask 1 (some .int) ∈ wsA := inA (tb2 (List.mem_of_getElem? (i := 238) rfl)) rfl
theorem mL_X5_179 : Cond.methodLink RX5 179 yX3_bestToAsk ∈ wsA := inA (tb2 (List.mem_of_getElem? (i := 239) rfl)) rfl
theorem mI_X3_bestToAsk : Cond.instanceMethod yX3_bestToAsk ∈ wsA := inA (tb3 (List.mem_of_getElem? (i := 0) rfl)) rfl
theorem mS_X3_bestToAsk : Cond.selects RX3 yX3_bestToAsk yX3_bestToAsk ∈ wsA := inA (tb3 (List.mem_of_getElem? (i := 1) rfl)) rfl
theorem mC_X3_bestToAsk : Cond.code yX3_bestToAsk cX3_bestToAsk 6 (some .int) ∈ wsA := inA (tb3 (List.mem_of_getElem? (i := 2) rfl)) rfl
theorem mL_X3_37 : Cond.methodLink RX3 37 yX3_leftAtWorst ∈ wsA := inA (tb3 (List.mem_of_getElem? (i := 3) rfl)) rfl
theorem mI_X3_leftAtWorst : Cond.instanceMethod yX3_leftAtWorst ∈ wsA := inA (tb3 (List.mem_of_getElem? (i := 5) rfl)) rfl
theorem mC_X3_leftAtWorst : Cond.code yX3_leftAtWorst cX3_leftAtWorst 6 (some .int) ∈ wsA := inA (tb3 (List.mem_of_getElem? (i := 6) rfl)) rfl
theorem mL_X3_61 : Cond.methodLink RX3 61 Lib.Math.max.name ∈ wsA := inA (tb3 (List.mem_of_getElem? (i := 8) rfl)) rfl
theorem mL_L_80 : Cond.methodLink RL 80 yX5_markets ∈ wsA := inA (tb3 (List.mem_of_getElem? (i := 9) rfl)) rfl
theorem mI_X5_markets : Cond.instanceMethod yX5_markets ∈ wsA := inA (tb3 (List.mem_of_getElem? (i := 10) rfl)) rfl
theorem mS_X5_markets : Cond.selects RX5 yX5_markets yX5_markets ∈ wsA := inA (tb3 (List.mem_of_getElem? (i := 11) rfl)) rfl
theorem mC_X5_markets : Cond.code yX5_markets cX5_markets 10 (some .int) ∈ wsA := inA (tb3 (List.mem_of_getElem? (i := 12) rfl)) rfl
theorem mL_X5_182 : Cond.methodLink RX5 182 yX5_seedBehind ∈ wsA := inA (tb3 (List.mem_of_getElem? (i := 13) rfl)) rfl
theorem mT_X5_seedBehind : Cond.static yX5_seedBehind ∈ wsA := inA (tb3 (List.mem_of_getElem? (i := 14) rfl)) rfl
theorem mC_X5_seedBehind : Cond.code yX5_seedBehind cX5_seedBehind 1 (some .int) ∈ wsA := inA (tb3 (List.mem_of_getElem? (i := 15) rfl)) rfl
theorem mK_X5_191 : Cond.constant RX5 191 (1103515245) ∈ wsA := inA (tb3 (List.mem_of_getElem? (i := 16) rfl)) rfl
theorem mK_X5_192 : Cond.constant RX5 192 (2147483647) ∈ wsA := inA (tb3 (List.mem_of_getElem? (i := 17) rfl)) rfl
theorem mK_X5_185 : Cond.constant RX5 185 (65536) ∈ wsA := inA (tb3 (List.mem_of_getElem? (i := 18) rfl)) rfl
theorem mL_X5_186 : Cond.methodLink RX5 186 Lib.Math.max.name ∈ wsA := inA (tb3 (List.mem_of_getElem? (i := 19) rfl)) rfl
theorem mL_L_85 : Cond.methodLink RL 85 yX5_image ∈ wsA := inA (tb3 (List.mem_of_getElem? (i := 20) rfl)) rfl
theorem mI_X5_image : Cond.instanceMethod yX5_image ∈ wsA := inA (tb3 (List.mem_of_getElem? (i := 21) rfl)) rfl
theorem mS_X5_image : Cond.selects RX5 yX5_image yX5_image ∈ wsA := inA (tb3 (List.mem_of_getElem? (i := 22) rfl)) rfl
theorem mC_X5_image : Cond.code yX5_image cX5_image 1 (some .int) ∈ wsA := inA (tb3 (List.mem_of_getElem? (i := 23) rfl)) rfl
theorem mL_X5_193 : Cond.methodLink RX5 193 yX2_copy ∈ wsA := inA (tb3 (List.mem_of_getElem? (i := 24) rfl)) rfl
theorem mI_X2_copy : Cond.instanceMethod yX2_copy ∈ wsA := inA (tb3 (List.mem_of_getElem? (i := 25) rfl)) rfl
theorem mS_X2_copy : Cond.selects RX2 yX2_copy yX2_copy ∈ wsA := inA (tb3 (List.mem_of_getElem? (i := 26) rfl)) rfl
theorem mC_X2_copy : Cond.code yX2_copy cX2_copy 2 none ∈ wsA := inA (tb3 (List.mem_of_getElem? (i := 27) rfl)) rfl
theorem mL_X2_47 : Cond.methodLink RX2 47 arraycopyName ∈ wsA := inA (tb3 (List.mem_of_getElem? (i := 28) rfl)) rfl
theorem mT_arraycopy : Cond.static arraycopyName ∈ wsA := inA (tb3 (List.mem_of_getElem? (i := 29) rfl)) rfl
theorem mV_arraycopy : Cond.native arraycopyName ∈ wsA := inA (tb3 (List.mem_of_getElem? (i := 30) rfl)) rfl
theorem mL_L_89 : Cond.methodLink RL 89 yX5_restore ∈ wsA := inA (tb3 (List.mem_of_getElem? (i := 31) rfl)) rfl
theorem mI_X5_restore : Cond.instanceMethod yX5_restore ∈ wsA := inA (tb3 (List.mem_of_getElem? (i := 32) rfl)) rfl
theorem mS_X5_restore : Cond.selects RX5 yX5_restore yX5_restore ∈ wsA := inA (tb3 (List.mem_of_getElem? (i := 33) rfl)) rfl
theorem mC_X5_restore : Cond.code yX5_restore cX5_restore 1 (some .int) ∈ wsA := inA (tb3 (List.mem_of_getElem? (i := 34) rfl)) rfl
theorem mL_L_93 : Cond.methodLink RL 93 yX5_count ∈ wsA := inA (tb3 (List.mem_of_getElem? (i := 35) rfl)) rfl
theorem mI_X5_count : Cond.instanceMethod yX5_count ∈ wsA := inA (tb3 (List.mem_of_getElem? (i := 36) rfl)) rfl
theorem mS_X5_count : Cond.selects RX5 yX5_count yX5_count ∈ wsA := inA (tb3 (List.mem_of_getElem? (i := 37) rfl)) rfl
theorem mC_X5_count : Cond.code yX5_count cX5_count 2 (some .int) ∈ wsA := inA (tb3 (List.mem_of_getElem? (i := 38) rfl)) rfl
theorem mL_X5_200 : Cond.methodLink RX5 200 yX5_lengthOfAll ∈ wsA := inA (tb3 (List.mem_of_getElem? (i := 39) rfl)) rfl
theorem mI_X5_lengthOfAll : Cond.instanceMethod yX5_lengthOfAll ∈ wsA := inA (tb3 (List.mem_of_getElem? (i := 41) rfl)) rfl
theorem mC_X5_lengthOfAll : Cond.code yX5_lengthOfAll cX5_lengthOfAll 3 (some .int) ∈ wsA := inA (tb3 (List.mem_of_getElem? (i := 42) rfl)) rfl
theorem mL_X5_203 : Cond.methodLink RX5 203 yX2_hearings ∈ wsA := inA (tb3 (List.mem_of_getElem? (i := 43) rfl)) rfl
theorem mI_X2_hearings : Cond.instanceMethod yX2_hearings ∈ wsA := inA (tb3 (List.mem_of_getElem? (i := 44) rfl)) rfl
theorem mS_X2_hearings : Cond.selects RX2 yX2_hearings yX2_hearings ∈ wsA := inA (tb3 (List.mem_of_getElem? (i := 45) rfl)) rfl
theorem mC_X2_hearings : Cond.code yX2_hearings cX2_hearings 3 (some .int) ∈ wsA := inA (tb3 (List.mem_of_getElem? (i := 46) rfl)) rfl
theorem mL_X2_57 : Cond.methodLink RX2 57 yJ6_bitCount_0f7a4 ∈ wsA := inA (tb3 (List.mem_of_getElem? (i := 47) rfl)) rfl
theorem mL_L_97 : Cond.methodLink RL 97 yX5_digest ∈ wsA := inA (tb3 (List.mem_of_getElem? (i := 48) rfl)) rfl
theorem mI_X5_digest : Cond.instanceMethod yX5_digest ∈ wsA := inA (tb3 (List.mem_of_getElem? (i := 49) rfl)) rfl
theorem mS_X5_digest : Cond.selects RX5 yX5_digest yX5_digest ∈ wsA := inA (tb3 (List.mem_of_getElem? (i := 50) rfl)) rfl
theorem mC_X5_digest : Cond.code yX5_digest cX5_digest 4 (some .long) ∈ wsA := inA (tb3 (List.mem_of_getElem? (i := 51) rfl)) rfl
theorem mK_X5_206 : Cond.constantLong RX5 206 (1069) ∈ wsA := inA (tb3 (List.mem_of_getElem? (i := 52) rfl)) rfl
theorem mL_X5_208 : Cond.methodLink RX5 208 yX5_withPeople ∈ wsA := inA (tb3 (List.mem_of_getElem? (i := 53) rfl)) rfl
theorem mI_X5_withPeople : Cond.instanceMethod yX5_withPeople ∈ wsA := inA (tb3 (List.mem_of_getElem? (i := 55) rfl)) rfl
theorem mC_X5_withPeople : Cond.code yX5_withPeople cX5_withPeople 7 (some .long) ∈ wsA := inA (tb3 (List.mem_of_getElem? (i := 56) rfl)) rfl
theorem mL_X5_234 : Cond.methodLink RX5 234 yX5_person ∈ wsA := inA (tb3 (List.mem_of_getElem? (i := 57) rfl)) rfl
theorem mL_X5_218 : Cond.methodLink RX5 218 yX5_mixed ∈ wsA := inA (tb3 (List.mem_of_getElem? (i := 58) rfl)) rfl
theorem mT_X5_mixed : Cond.static yX5_mixed ∈ wsA := inA (tb3 (List.mem_of_getElem? (i := 59) rfl)) rfl
theorem mC_X5_mixed : Cond.code yX5_mixed cX5_mixed 4 (some .long) ∈ wsA := inA (tb3 (List.mem_of_getElem? (i := 60) rfl)) rfl
theorem mK_X5_243 : Cond.constantLong RX5 243 (31) ∈ wsA := inA (tb3 (List.mem_of_getElem? (i := 61) rfl)) rfl
theorem mL_X5_212 : Cond.methodLink RX5 212 yX5_withTunnels ∈ wsA := inA (tb3 (List.mem_of_getElem? (i := 62) rfl)) rfl
theorem mI_X5_withTunnels : Cond.instanceMethod yX5_withTunnels ∈ wsA := inA (tb3 (List.mem_of_getElem? (i := 64) rfl)) rfl
theorem mC_X5_withTunnels : Cond.code yX5_withTunnels cX5_withTunnels 7 (some .long) ∈ wsA := inA (tb3 (List.mem_of_getElem? (i := 65) rfl)) rfl
theorem mL_X5_237 : Cond.methodLink RX5 237 yX5_tunnel ∈ wsA := inA (tb3 (List.mem_of_getElem? (i := 66) rfl)) rfl
theorem mL_X5_215 : Cond.methodLink RX5 215 yX5_aim ∈ wsA := inA (tb3 (List.mem_of_getElem? (i := 67) rfl)) rfl
theorem mL_X5_222 : Cond.methodLink RX5 222 yX5_began ∈ wsA := inA (tb3 (List.mem_of_getElem? (i := 68) rfl)) rfl
theorem mL_X5_225 : Cond.methodLink RX5 225 yX5_ask ∈ wsA := inA (tb3 (List.mem_of_getElem? (i := 69) rfl)) rfl
theorem mL_X5_228 : Cond.methodLink RX5 228 yX5_withLetters ∈ wsA := inA (tb3 (List.mem_of_getElem? (i := 70) rfl)) rfl
theorem mI_X5_withLetters : Cond.instanceMethod yX5_withLetters ∈ wsA := inA (tb3 (List.mem_of_getElem? (i := 72) rfl)) rfl
theorem mC_X5_withLetters : Cond.code yX5_withLetters cX5_withLetters 6 (some .long) ∈ wsA := inA (tb3 (List.mem_of_getElem? (i := 73) rfl)) rfl
theorem mL_X5_240 : Cond.methodLink RX5 240 yX1_codeAt ∈ wsA := inA (tb3 (List.mem_of_getElem? (i := 74) rfl)) rfl
theorem mL_X5_231 : Cond.methodLink RX5 231 yX5_count ∈ wsA := inA (tb3 (List.mem_of_getElem? (i := 75) rfl)) rfl
theorem mQ_L_10 : Cond.classLink RL 10 RX6 ∈ wsA := inA (tb3 (List.mem_of_getElem? (i := 76) rfl)) rfl
theorem mB_X6 : Cond.instantiable RX6 22 ∈ wsA := inA (tb3 (List.mem_of_getElem? (i := 77) rfl)) rfl
theorem mL_L_12 : Cond.methodLink RL 12 yX6_init ∈ wsA := inA (tb3 (List.mem_of_getElem? (i := 78) rfl)) rfl
theorem mI_X6_init : Cond.instanceMethod yX6_init ∈ wsA := inA (tb3 (List.mem_of_getElem? (i := 79) rfl)) rfl
theorem mC_X6_init : Cond.code yX6_init cX6_init 1 none ∈ wsA := inA (tb3 (List.mem_of_getElem? (i := 80) rfl)) rfl
theorem mL_X6_1 : Cond.methodLink RX6 1 objectInit ∈ wsA := inA (tb3 (List.mem_of_getElem? (i := 81) rfl)) rfl
theorem mF_X6_7 : Cond.fieldLink RX6 7 "DugBySaidModel" "page" "[I" ∈ wsA := inA (tb3 (List.mem_of_getElem? (i := 82) rfl)) rfl
theorem mF_X6_44 : Cond.fieldLink RX6 44 "DugBySaidModel" "pageMany" "I" ∈ wsA := inA (tb3 (List.mem_of_getElem? (i := 83) rfl)) rfl
theorem mF_X6_47 : Cond.fieldLink RX6 47 "DugBySaidModel" "endAt" "I" ∈ wsA := inA (tb3 (List.mem_of_getElem? (i := 84) rfl)) rfl
theorem mF_X6_68 : Cond.fieldLink RX6 68 "DugBySaidModel" "people" "I" ∈ wsA := inA (tb3 (List.mem_of_getElem? (i := 85) rfl)) rfl
theorem mF_X6_71 : Cond.fieldLink RX6 71 "DugBySaidModel" "river" "I" ∈ wsA := inA (tb3 (List.mem_of_getElem? (i := 86) rfl)) rfl
theorem mF_X6_74 : Cond.fieldLink RX6 74 "DugBySaidModel" "days" "I" ∈ wsA := inA (tb3 (List.mem_of_getElem? (i := 87) rfl)) rfl
theorem mF_X6_77 : Cond.fieldLink RX6 77 "DugBySaidModel" "changes" "I" ∈ wsA := inA (tb3 (List.mem_of_getElem? (i := 88) rfl)) rfl
theorem mF_X6_83 : Cond.fieldLink RX6 83 "DugBySaidModel" "hillsRead" "I" ∈ wsA := inA (tb3 (List.mem_of_getElem? (i := 89) rfl)) rfl
theorem mF_X6_13 : Cond.fieldLink RX6 13 "DugBySaidModel" "rows" "[I" ∈ wsA := inA (tb3 (List.mem_of_getElem? (i := 90) rfl)) rfl
theorem mF_X6_16 : Cond.fieldLink RX6 16 "DugBySaidModel" "tunnels" "[I" ∈ wsA := inA (tb3 (List.mem_of_getElem? (i := 91) rfl)) rfl
theorem mF_X6_80 : Cond.fieldLink RX6 80 "DugBySaidModel" "askedMany" "I" ∈ wsA := inA (tb3 (List.mem_of_getElem? (i := 92) rfl)) rfl
theorem mF_X6_19 : Cond.fieldLink RX6 19 "DugBySaidModel" "askeds" "[I" ∈ wsA := inA (tb3 (List.mem_of_getElem? (i := 93) rfl)) rfl
theorem mF_X6_22 : Cond.fieldLink RX6 22 "DugBySaidModel" "parts" "[I" ∈ wsA := inA (tb3 (List.mem_of_getElem? (i := 94) rfl)) rfl
theorem mF_X6_159 : Cond.fieldLink RX6 159 "DugBySaidModel" "seedNow" "I" ∈ wsA := inA (tb3 (List.mem_of_getElem? (i := 95) rfl)) rfl
theorem mF_X6_34 : Cond.fieldLink RX6 34 "DugBySaidModel" "keptHill" "I" ∈ wsA := inA (tb3 (List.mem_of_getElem? (i := 96) rfl)) rfl
theorem mF_X6_176 : Cond.fieldLink RX6 176 "DugBySaidModel" "keptDays" "I" ∈ wsA := inA (tb3 (List.mem_of_getElem? (i := 97) rfl)) rfl
theorem mF_X6_179 : Cond.fieldLink RX6 179 "DugBySaidModel" "keptChanges" "I" ∈ wsA := inA (tb3 (List.mem_of_getElem? (i := 98) rfl)) rfl
theorem mF_X6_182 : Cond.fieldLink RX6 182 "DugBySaidModel" "keptAsked" "I" ∈ wsA := inA (tb3 (List.mem_of_getElem? (i := 99) rfl)) rfl
theorem mF_X6_25 : Cond.fieldLink RX6 25 "DugBySaidModel" "keptRows" "[I" ∈ wsA := inA (tb3 (List.mem_of_getElem? (i := 100) rfl)) rfl
theorem mF_X6_28 : Cond.fieldLink RX6 28 "DugBySaidModel" "keptTunnels" "[I" ∈ wsA := inA (tb3 (List.mem_of_getElem? (i := 101) rfl)) rfl
theorem mF_X6_31 : Cond.fieldLink RX6 31 "DugBySaidModel" "keptAskeds" "[I" ∈ wsA := inA (tb3 (List.mem_of_getElem? (i := 102) rfl)) rfl
theorem mF_X6_196 : Cond.fieldLink RX6 196 "DugBySaidModel" "hash" "J" ∈ wsA := inA (tb3 (List.mem_of_getElem? (i := 103) rfl)) rfl
theorem mL_L_17 : Cond.methodLink RL 17 yX6_letter ∈ wsA := inA (tb3 (List.mem_of_getElem? (i := 149) rfl)) rfl
theorem mI_X6_letter : Cond.instanceMethod yX6_letter ∈ wsA := inA (tb3 (List.mem_of_getElem? (i := 150) rfl)) rfl
theorem mS_X6_letter : Cond.selects RX6 yX6_letter yX6_letter ∈ wsA := inA (tb3 (List.mem_of_getElem? (i := 151) rfl)) rfl
theorem mC_X6_letter : Cond.code yX6_letter cX6_letter 2 (some .int) ∈ wsA := inA (tb3 (List.mem_of_getElem? (i := 152) rfl)) rfl
theorem mK_X6_38 : Cond.constantLong RX6 38 (126) ∈ wsA := inA (tb3 (List.mem_of_getElem? (i := 153) rfl)) rfl
theorem mL_X6_40 : Cond.methodLink RX6 40 yX6_in ∈ wsA := inA (tb3 (List.mem_of_getElem? (i := 154) rfl)) rfl
theorem mT_X6_in : Cond.static yX6_in ∈ wsA := inA (tb3 (List.mem_of_getElem? (i := 155) rfl)) rfl
theorem mC_X6_in : Cond.code yX6_in cX6_in 6 (some .boolean) ∈ wsA := inA (tb3 (List.mem_of_getElem? (i := 156) rfl)) rfl
theorem mL_L_22 : Cond.methodLink RL 22 yX6_blank ∈ wsA := inA (tb3 (List.mem_of_getElem? (i := 157) rfl)) rfl
theorem mI_X6_blank : Cond.instanceMethod yX6_blank ∈ wsA := inA (tb3 (List.mem_of_getElem? (i := 158) rfl)) rfl
theorem mS_X6_blank : Cond.selects RX6 yX6_blank yX6_blank ∈ wsA := inA (tb3 (List.mem_of_getElem? (i := 159) rfl)) rfl
theorem mC_X6_blank : Cond.code yX6_blank cX6_blank 2 (some .int) ∈ wsA := inA (tb3 (List.mem_of_getElem? (i := 160) rfl)) rfl
theorem mL_L_26 : Cond.methodLink RL 26 yX6_fault ∈ wsA := inA (tb3 (List.mem_of_getElem? (i := 161) rfl)) rfl
theorem mI_X6_fault : Cond.instanceMethod yX6_fault ∈ wsA := inA (tb3 (List.mem_of_getElem? (i := 162) rfl)) rfl
theorem mS_X6_fault : Cond.selects RX6 yX6_fault yX6_fault ∈ wsA := inA (tb3 (List.mem_of_getElem? (i := 163) rfl)) rfl
theorem mC_X6_fault : Cond.code yX6_fault cX6_fault 1 (some .int) ∈ wsA := inA (tb3 (List.mem_of_getElem? (i := 164) rfl)) rfl
theorem mL_X6_64 : Cond.methodLink RX6 64 yX6_faultOf ∈ wsA := inA (tb3 (List.mem_of_getElem? (i := 165) rfl)) rfl
theorem mI_X6_faultOf : Cond.instanceMethod yX6_faultOf ∈ wsA := inA (tb3 (List.mem_of_getElem? (i := 167) rfl)) rfl
theorem mC_X6_faultOf : Cond.code yX6_faultOf cX6_faultOf 2 (some .int) ∈ wsA := inA (tb3 (List.mem_of_getElem? (i := 168) rfl)) rfl
theorem mL_X6_60 : Cond.methodLink RX6 60 yX6_isGood ∈ wsA := inA (tb3 (List.mem_of_getElem? (i := 169) rfl)) rfl
theorem mI_X6_isGood : Cond.instanceMethod yX6_isGood ∈ wsA := inA (tb3 (List.mem_of_getElem? (i := 171) rfl)) rfl
theorem mC_X6_isGood : Cond.code yX6_isGood cX6_isGood 3 (some .boolean) ∈ wsA := inA (tb3 (List.mem_of_getElem? (i := 172) rfl)) rfl
theorem mK_X6_50 : Cond.constantLong RX6 50 (49) ∈ wsA := inA (tb3 (List.mem_of_getElem? (i := 173) rfl)) rfl
theorem mK_X6_52 : Cond.constantLong RX6 52 (57) ∈ wsA := inA (tb3 (List.mem_of_getElem? (i := 174) rfl)) rfl
theorem mL_X6_54 : Cond.methodLink RX6 54 yX6_kindBy ∈ wsA := inA (tb3 (List.mem_of_getElem? (i := 175) rfl)) rfl
theorem mT_X6_kindBy : Cond.static yX6_kindBy ∈ wsA := inA (tb3 (List.mem_of_getElem? (i := 176) rfl)) rfl
theorem mC_X6_kindBy : Cond.code yX6_kindBy cX6_kindBy 1 (some .int) ∈ wsA := inA (tb3 (List.mem_of_getElem? (i := 177) rfl)) rfl
theorem mK_X6_58 : Cond.constantLong RX6 58 (48) ∈ wsA := inA (tb3 (List.mem_of_getElem? (i := 178) rfl)) rfl
theorem mL_L_30 : Cond.methodLink RL 30 yX6_hill ∈ wsA := inA (tb3 (List.mem_of_getElem? (i := 179) rfl)) rfl
theorem mI_X6_hill : Cond.instanceMethod yX6_hill ∈ wsA := inA (tb3 (List.mem_of_getElem? (i := 180) rfl)) rfl
theorem mS_X6_hill : Cond.selects RX6 yX6_hill yX6_hill ∈ wsA := inA (tb3 (List.mem_of_getElem? (i := 181) rfl)) rfl
theorem mC_X6_hill : Cond.code yX6_hill cX6_hill 3 (some .int) ∈ wsA := inA (tb3 (List.mem_of_getElem? (i := 182) rfl)) rfl
theorem mL_L_35 : Cond.methodLink RL 35 yX6_person ∈ wsA := inA (tb3 (List.mem_of_getElem? (i := 183) rfl)) rfl
theorem mI_X6_person : Cond.instanceMethod yX6_person ∈ wsA := inA (tb3 (List.mem_of_getElem? (i := 184) rfl)) rfl
theorem mS_X6_person : Cond.selects RX6 yX6_person yX6_person ∈ wsA := inA (tb3 (List.mem_of_getElem? (i := 185) rfl)) rfl
theorem mC_X6_person : Cond.code yX6_person cX6_person 3 (some .int) ∈ wsA := inA (tb3 (List.mem_of_getElem? (i := 186) rfl)) rfl
theorem mL_X6_120 : Cond.methodLink RX6 120 yX6_isPerson ∈ wsA := inA (tb3 (List.mem_of_getElem? (i := 187) rfl)) rfl
theorem mI_X6_isPerson : Cond.instanceMethod yX6_isPerson ∈ wsA := inA (tb3 (List.mem_of_getElem? (i := 189) rfl)) rfl
theorem mC_X6_isPerson : Cond.code yX6_isPerson cX6_isPerson 2 (some .boolean) ∈ wsA := inA (tb3 (List.mem_of_getElem? (i := 190) rfl)) rfl
theorem mL_X6_123 : Cond.methodLink RX6 123 yX6_tellPerson ∈ wsA := inA (tb3 (List.mem_of_getElem? (i := 191) rfl)) rfl
theorem mI_X6_tellPerson : Cond.instanceMethod yX6_tellPerson ∈ wsA := inA (tb3 (List.mem_of_getElem? (i := 193) rfl)) rfl
theorem mC_X6_tellPerson : Cond.code yX6_tellPerson cX6_tellPerson 3 (some .int) ∈ wsA := inA (tb3 (List.mem_of_getElem? (i := 194) rfl)) rfl
theorem mL_X6_92 : Cond.methodLink RX6 92 yX6_tellsOf ∈ wsA := inA (tb3 (List.mem_of_getElem? (i := 195) rfl)) rfl
theorem mI_X6_tellsOf : Cond.instanceMethod yX6_tellsOf ∈ wsA := inA (tb3 (List.mem_of_getElem? (i := 197) rfl)) rfl
theorem mC_X6_tellsOf : Cond.code yX6_tellsOf cX6_tellsOf 6 (some .int) ∈ wsA := inA (tb3 (List.mem_of_getElem? (i := 198) rfl)) rfl
theorem mL_X6_111 : Cond.methodLink RX6 111 yX6_tunnelsOf ∈ wsA := inA (tb3 (List.mem_of_getElem? (i := 199) rfl)) rfl
theorem mI_X6_tunnelsOf : Cond.instanceMethod yX6_tunnelsOf ∈ wsA := inA (tb3 (List.mem_of_getElem? (i := 201) rfl)) rfl
theorem mC_X6_tunnelsOf : Cond.code yX6_tunnelsOf cX6_tunnelsOf 4 (some .int) ∈ wsA := inA (tb3 (List.mem_of_getElem? (i := 202) rfl)) rfl
theorem mL_X6_114 : Cond.methodLink RX6 114 yX6_endsOf ∈ wsA := inA (tb3 (List.mem_of_getElem? (i := 203) rfl)) rfl
theorem mI_X6_endsOf : Cond.instanceMethod yX6_endsOf ∈ wsA := inA (tb3 (List.mem_of_getElem? (i := 205) rfl)) rfl
theorem mC_X6_endsOf : Cond.code yX6_endsOf cX6_endsOf 2 (some .int) ∈ wsA := inA (tb3 (List.mem_of_getElem? (i := 206) rfl)) rfl
theorem mL_X6_101 : Cond.methodLink RX6 101 yX6_endBy ∈ wsA := inA (tb3 (List.mem_of_getElem? (i := 207) rfl)) rfl
theorem mI_X6_endBy : Cond.instanceMethod yX6_endBy ∈ wsA := inA (tb3 (List.mem_of_getElem? (i := 209) rfl)) rfl
theorem mC_X6_endBy : Cond.code yX6_endBy cX6_endBy 5 (some .int) ∈ wsA := inA (tb3 (List.mem_of_getElem? (i := 210) rfl)) rfl
theorem mL_X6_95 : Cond.methodLink RX6 95 yX6_toldBy ∈ wsA := inA (tb3 (List.mem_of_getElem? (i := 211) rfl)) rfl
theorem mI_X6_toldBy : Cond.instanceMethod yX6_toldBy ∈ wsA := inA (tb3 (List.mem_of_getElem? (i := 213) rfl)) rfl
theorem mC_X6_toldBy : Cond.code yX6_toldBy cX6_toldBy 4 (some .int) ∈ wsA := inA (tb3 (List.mem_of_getElem? (i := 214) rfl)) rfl
theorem mL_X6_105 : Cond.methodLink RX6 105 yX6_lengthBy ∈ wsA := inA (tb3 (List.mem_of_getElem? (i := 215) rfl)) rfl
theorem mI_X6_lengthBy : Cond.instanceMethod yX6_lengthBy ∈ wsA := inA (tb3 (List.mem_of_getElem? (i := 217) rfl)) rfl
theorem mC_X6_lengthBy : Cond.code yX6_lengthBy cX6_lengthBy 7 (some .int) ∈ wsA := inA (tb3 (List.mem_of_getElem? (i := 218) rfl)) rfl
theorem mL_X6_98 : Cond.methodLink RX6 98 yX6_yardsBy ∈ wsA := inA (tb3 (List.mem_of_getElem? (i := 219) rfl)) rfl
theorem mT_X6_yardsBy : Cond.static yX6_yardsBy ∈ wsA := inA (tb3 (List.mem_of_getElem? (i := 220) rfl)) rfl
theorem mC_X6_yardsBy : Cond.code yX6_yardsBy cX6_yardsBy 1 (some .int) ∈ wsA := inA (tb3 (List.mem_of_getElem? (i := 221) rfl)) rfl
theorem mL_X6_117 : Cond.methodLink RX6 117 yX6_lastsOf ∈ wsA := inA (tb3 (List.mem_of_getElem? (i := 222) rfl)) rfl
theorem mI_X6_lastsOf : Cond.instanceMethod yX6_lastsOf ∈ wsA := inA (tb3 (List.mem_of_getElem? (i := 224) rfl)) rfl
theorem mC_X6_lastsOf : Cond.code yX6_lastsOf cX6_lastsOf 5 (some .int) ∈ wsA := inA (tb3 (List.mem_of_getElem? (i := 225) rfl)) rfl
theorem mL_X6_108 : Cond.methodLink RX6 108 yX6_dayOf ∈ wsA := inA (tb3 (List.mem_of_getElem? (i := 226) rfl)) rfl
theorem mI_X6_dayOf : Cond.instanceMethod yX6_dayOf ∈ wsA := inA (tb3 (List.mem_of_getElem? (i := 228) rfl)) rfl
theorem mC_X6_dayOf : Cond.code yX6_dayOf cX6_dayOf 6 (some .int) ∈ wsA := inA (tb3 (List.mem_of_getElem? (i := 229) rfl)) rfl
theorem mL_L_39 : Cond.methodLink RL 39 yX6_as ∈ wsA := inA (tb3 (List.mem_of_getElem? (i := 230) rfl)) rfl
theorem mI_X6_as : Cond.instanceMethod yX6_as ∈ wsA := inA (tb3 (List.mem_of_getElem? (i := 231) rfl)) rfl
theorem mS_X6_as : Cond.selects RX6 yX6_as yX6_as ∈ wsA := inA (tb3 (List.mem_of_getElem? (i := 232) rfl)) rfl
theorem mC_X6_as : Cond.code yX6_as cX6_as 5 (some .int) ∈ wsA := inA (tb3 (List.mem_of_getElem? (i := 233) rfl)) rfl
theorem mK_X6_126 : Cond.constantLong RX6 126 (4) ∈ wsA := inA (tb3 (List.mem_of_getElem? (i := 234) rfl)) rfl
theorem mL_L_43 : Cond.methodLink RL 43 yX6_next ∈ wsA := inA (tb3 (List.mem_of_getElem? (i := 235) rfl)) rfl
theorem mI_X6_next : Cond.instanceMethod yX6_next ∈ wsA := inA (tb3 (List.mem_of_getElem? (i := 236) rfl)) rfl
theorem mS_X6_next : Cond.selects RX6 yX6_next yX6_next ∈ wsA := inA (tb3 (List.mem_of_getElem? (i := 237) rfl)) rfl
theorem mC_X6_next : Cond.code yX6_next cX6_next 4 (some .int) ∈ wsA := inA (tb3 (List.mem_of_getElem? (i := 238) rfl)) rfl
theorem mL_L_47 : Cond.methodLink RL 47 yX6_tell ∈ wsA := inA (tb3 (List.mem_of_getElem? (i := 239) rfl)) rfl
theorem mI_X6_tell : Cond.instanceMethod yX6_tell ∈ wsA := inA (tb4 (List.mem_of_getElem? (i := 0) rfl)) rfl
theorem mS_X6_tell : Cond.selects RX6 yX6_tell yX6_tell ∈ wsA := inA (tb4 (List.mem_of_getElem? (i := 1) rfl)) rfl
theorem mC_X6_tell : Cond.code yX6_tell cX6_tell 3 (some .int) ∈ wsA := inA (tb4 (List.mem_of_getElem? (i := 2) rfl)) rfl
theorem mL_X6_128 : Cond.methodLink RX6 128 yX6_isTunnel ∈ wsA := inA (tb4 (List.mem_of_getElem? (i := 3) rfl)) rfl
theorem mI_X6_isTunnel : Cond.instanceMethod yX6_isTunnel ∈ wsA := inA (tb4 (List.mem_of_getElem? (i := 5) rfl)) rfl
theorem mC_X6_isTunnel : Cond.code yX6_isTunnel cX6_isTunnel 2 (some .boolean) ∈ wsA := inA (tb4 (List.mem_of_getElem? (i := 6) rfl)) rfl
theorem mL_X6_86 : Cond.methodLink RX6 86 yX6_lacks ∈ wsA := inA (tb4 (List.mem_of_getElem? (i := 7) rfl)) rfl
theorem mI_X6_lacks : Cond.instanceMethod yX6_lacks ∈ wsA := inA (tb4 (List.mem_of_getElem? (i := 9) rfl)) rfl
theorem mC_X6_lacks : Cond.code yX6_lacks cX6_lacks 1 (some .boolean) ∈ wsA := inA (tb4 (List.mem_of_getElem? (i := 10) rfl)) rfl
theorem mK_X6_90 : Cond.constantLong RX6 90 (2) ∈ wsA := inA (tb4 (List.mem_of_getElem? (i := 11) rfl)) rfl
theorem mL_X6_131 : Cond.methodLink RX6 131 yX6_lengthOf ∈ wsA := inA (tb4 (List.mem_of_getElem? (i := 12) rfl)) rfl
theorem mI_X6_lengthOf : Cond.instanceMethod yX6_lengthOf ∈ wsA := inA (tb4 (List.mem_of_getElem? (i := 14) rfl)) rfl
theorem mC_X6_lengthOf : Cond.code yX6_lengthOf cX6_lengthOf 2 (some .int) ∈ wsA := inA (tb4 (List.mem_of_getElem? (i := 15) rfl)) rfl
theorem mL_L_51 : Cond.methodLink RL 51 yX6_day ∈ wsA := inA (tb4 (List.mem_of_getElem? (i := 16) rfl)) rfl
theorem mI_X6_day : Cond.instanceMethod yX6_day ∈ wsA := inA (tb4 (List.mem_of_getElem? (i := 17) rfl)) rfl
theorem mS_X6_day : Cond.selects RX6 yX6_day yX6_day ∈ wsA := inA (tb4 (List.mem_of_getElem? (i := 18) rfl)) rfl
theorem mC_X6_day : Cond.code yX6_day cX6_day 4 (some .int) ∈ wsA := inA (tb4 (List.mem_of_getElem? (i := 19) rfl)) rfl
theorem mL_X6_134 : Cond.methodLink RX6 134 yX6_ones ∈ wsA := inA (tb4 (List.mem_of_getElem? (i := 20) rfl)) rfl
theorem mT_X6_ones : Cond.static yX6_ones ∈ wsA := inA (tb4 (List.mem_of_getElem? (i := 21) rfl)) rfl
theorem mC_X6_ones : Cond.code yX6_ones cX6_ones 3 (some .int) ∈ wsA := inA (tb4 (List.mem_of_getElem? (i := 22) rfl)) rfl
theorem mL_L_55 : Cond.methodLink RL 55 yX6_deny ∈ wsA := inA (tb4 (List.mem_of_getElem? (i := 23) rfl)) rfl
theorem mI_X6_deny : Cond.instanceMethod yX6_deny ∈ wsA := inA (tb4 (List.mem_of_getElem? (i := 24) rfl)) rfl
theorem mS_X6_deny : Cond.selects RX6 yX6_deny yX6_deny ∈ wsA := inA (tb4 (List.mem_of_getElem? (i := 25) rfl)) rfl
theorem mC_X6_deny : Cond.code yX6_deny cX6_deny 2 (some .int) ∈ wsA := inA (tb4 (List.mem_of_getElem? (i := 26) rfl)) rfl
theorem mL_L_59 : Cond.methodLink RL 59 yX6_tunnel ∈ wsA := inA (tb4 (List.mem_of_getElem? (i := 27) rfl)) rfl
theorem mI_X6_tunnel : Cond.instanceMethod yX6_tunnel ∈ wsA := inA (tb4 (List.mem_of_getElem? (i := 28) rfl)) rfl
theorem mS_X6_tunnel : Cond.selects RX6 yX6_tunnel yX6_tunnel ∈ wsA := inA (tb4 (List.mem_of_getElem? (i := 29) rfl)) rfl
theorem mC_X6_tunnel : Cond.code yX6_tunnel cX6_tunnel 3 (some .int) ∈ wsA := inA (tb4 (List.mem_of_getElem? (i := 30) rfl)) rfl
theorem mL_X6_139 : Cond.methodLink RX6 139 yX6_tellTunnel ∈ wsA := inA (tb4 (List.mem_of_getElem? (i := 31) rfl)) rfl
theorem mI_X6_tellTunnel : Cond.instanceMethod yX6_tellTunnel ∈ wsA := inA (tb4 (List.mem_of_getElem? (i := 33) rfl)) rfl
theorem mC_X6_tellTunnel : Cond.code yX6_tellTunnel cX6_tellTunnel 3 (some .int) ∈ wsA := inA (tb4 (List.mem_of_getElem? (i := 34) rfl)) rfl
theorem mK_X6_137 : Cond.constantLong RX6 137 (3) ∈ wsA := inA (tb4 (List.mem_of_getElem? (i := 35) rfl)) rfl
theorem mL_L_63 : Cond.methodLink RL 63 yX6_aim ∈ wsA := inA (tb4 (List.mem_of_getElem? (i := 36) rfl)) rfl
theorem mI_X6_aim : Cond.instanceMethod yX6_aim ∈ wsA := inA (tb4 (List.mem_of_getElem? (i := 37) rfl)) rfl
theorem mS_X6_aim : Cond.selects RX6 yX6_aim yX6_aim ∈ wsA := inA (tb4 (List.mem_of_getElem? (i := 38) rfl)) rfl
theorem mC_X6_aim : Cond.code yX6_aim cX6_aim 3 (some .int) ∈ wsA := inA (tb4 (List.mem_of_getElem? (i := 39) rfl)) rfl
theorem mK_X6_142 : Cond.constantLong RX6 142 (12) ∈ wsA := inA (tb4 (List.mem_of_getElem? (i := 40) rfl)) rfl
theorem mL_X6_144 : Cond.methodLink RX6 144 yX6_aimOf ∈ wsA := inA (tb4 (List.mem_of_getElem? (i := 41) rfl)) rfl
theorem mI_X6_aimOf : Cond.instanceMethod yX6_aimOf ∈ wsA := inA (tb4 (List.mem_of_getElem? (i := 43) rfl)) rfl
theorem mC_X6_aimOf : Cond.code yX6_aimOf cX6_aimOf 6 (some .int) ∈ wsA := inA (tb4 (List.mem_of_getElem? (i := 44) rfl)) rfl
theorem mL_L_67 : Cond.methodLink RL 67 yX6_heard ∈ wsA := inA (tb4 (List.mem_of_getElem? (i := 45) rfl)) rfl
theorem mI_X6_heard : Cond.instanceMethod yX6_heard ∈ wsA := inA (tb4 (List.mem_of_getElem? (i := 46) rfl)) rfl
theorem mS_X6_heard : Cond.selects RX6 yX6_heard yX6_heard ∈ wsA := inA (tb4 (List.mem_of_getElem? (i := 47) rfl)) rfl
theorem mC_X6_heard : Cond.code yX6_heard cX6_heard 3 (some .int) ∈ wsA := inA (tb4 (List.mem_of_getElem? (i := 48) rfl)) rfl
theorem mK_X6_147 : Cond.constantLong RX6 147 (-1) ∈ wsA := inA (tb4 (List.mem_of_getElem? (i := 49) rfl)) rfl
theorem mK_X6_149 : Cond.constantLong RX6 149 (9) ∈ wsA := inA (tb4 (List.mem_of_getElem? (i := 50) rfl)) rfl
theorem mL_L_71 : Cond.methodLink RL 71 yX6_forget ∈ wsA := inA (tb4 (List.mem_of_getElem? (i := 51) rfl)) rfl
theorem mI_X6_forget : Cond.instanceMethod yX6_forget ∈ wsA := inA (tb4 (List.mem_of_getElem? (i := 52) rfl)) rfl
theorem mS_X6_forget : Cond.selects RX6 yX6_forget yX6_forget ∈ wsA := inA (tb4 (List.mem_of_getElem? (i := 53) rfl)) rfl
theorem mC_X6_forget : Cond.code yX6_forget cX6_forget 2 (some .int) ∈ wsA := inA (tb4 (List.mem_of_getElem? (i := 54) rfl)) rfl
theorem mL_L_75 : Cond.methodLink RL 75 yX6_began ∈ wsA := inA (tb4 (List.mem_of_getElem? (i := 55) rfl)) rfl
theorem mI_X6_began : Cond.instanceMethod yX6_began ∈ wsA := inA (tb4 (List.mem_of_getElem? (i := 56) rfl)) rfl
theorem mS_X6_began : Cond.selects RX6 yX6_began yX6_began ∈ wsA := inA (tb4 (List.mem_of_getElem? (i := 57) rfl)) rfl
theorem mC_X6_began : Cond.code yX6_began cX6_began 1 (some .int) ∈ wsA := inA (tb4 (List.mem_of_getElem? (i := 58) rfl)) rfl
theorem mL_X6_151 : Cond.methodLink RX6 151 yX6_beganOf ∈ wsA := inA (tb4 (List.mem_of_getElem? (i := 59) rfl)) rfl
theorem mI_X6_beganOf : Cond.instanceMethod yX6_beganOf ∈ wsA := inA (tb4 (List.mem_of_getElem? (i := 61) rfl)) rfl
theorem mC_X6_beganOf : Cond.code yX6_beganOf cX6_beganOf 5 (some .int) ∈ wsA := inA (tb4 (List.mem_of_getElem? (i := 62) rfl)) rfl
theorem mL_L_79 : Cond.methodLink RL 79 yX6_ask ∈ wsA := inA (tb4 (List.mem_of_getElem? (i := 63) rfl)) rfl
theorem mI_X6_ask : Cond.instanceMethod yX6_ask ∈ wsA := inA (tb4 (List.mem_of_getElem? (i := 64) rfl)) rfl
theorem mS_X6_ask : Cond.selects RX6 yX6_ask yX6_ask ∈ wsA := inA (tb4 (List.mem_of_getElem? (i := 65) rfl)) rfl
theorem mC_X6_ask : Cond.code yX6_ask cX6_ask 1 (some .int) ∈ wsA := inA (tb4 (List.mem_of_getElem? (i := 66) rfl)) rfl
theorem mL_X6_154 : Cond.methodLink RX6 154 yX6_askOf ∈ wsA := inA (tb4 (List.mem_of_getElem? (i := 67) rfl)) rfl
theorem mI_X6_askOf : Cond.instanceMethod yX6_askOf ∈ wsA := inA (tb4 (List.mem_of_getElem? (i := 69) rfl)) rfl
theorem mC_X6_askOf : Cond.code yX6_askOf cX6_askOf 8 (some .int) ∈ wsA := inA (tb4 (List.mem_of_getElem? (i := 70) rfl)) rfl
theorem mL_L_84 : Cond.methodLink RL 84 yX6_markets ∈ wsA := inA (tb4 (List.mem_of_getElem? (i := 71) rfl)) rfl
theorem mI_X6_markets : Cond.instanceMethod yX6_markets ∈ wsA := inA (tb4 (List.mem_of_getElem? (i := 72) rfl)) rfl
theorem mS_X6_markets : Cond.selects RX6 yX6_markets yX6_markets ∈ wsA := inA (tb4 (List.mem_of_getElem? (i := 73) rfl)) rfl
theorem mC_X6_markets : Cond.code yX6_markets cX6_markets 8 (some .int) ∈ wsA := inA (tb4 (List.mem_of_getElem? (i := 74) rfl)) rfl
theorem mK_X6_167 : Cond.constantLong RX6 167 (60) ∈ wsA := inA (tb4 (List.mem_of_getElem? (i := 75) rfl)) rfl
theorem mL_X6_169 : Cond.methodLink RX6 169 yX6_draw ∈ wsA := inA (tb4 (List.mem_of_getElem? (i := 76) rfl)) rfl
theorem mI_X6_draw : Cond.instanceMethod yX6_draw ∈ wsA := inA (tb4 (List.mem_of_getElem? (i := 78) rfl)) rfl
theorem mC_X6_draw : Cond.code yX6_draw cX6_draw 2 (some .int) ∈ wsA := inA (tb4 (List.mem_of_getElem? (i := 79) rfl)) rfl
theorem mK_X6_157 : Cond.constantLong RX6 157 (1103515245) ∈ wsA := inA (tb4 (List.mem_of_getElem? (i := 80) rfl)) rfl
theorem mK_X6_162 : Cond.constantLong RX6 162 (12345) ∈ wsA := inA (tb4 (List.mem_of_getElem? (i := 81) rfl)) rfl
theorem mK_X6_164 : Cond.constantLong RX6 164 (2147483647) ∈ wsA := inA (tb4 (List.mem_of_getElem? (i := 82) rfl)) rfl
theorem mK_X6_166 : Cond.constant RX6 166 (65536) ∈ wsA := inA (tb4 (List.mem_of_getElem? (i := 83) rfl)) rfl
theorem mL_L_88 : Cond.methodLink RL 88 yX6_image ∈ wsA := inA (tb4 (List.mem_of_getElem? (i := 84) rfl)) rfl
theorem mI_X6_image : Cond.instanceMethod yX6_image ∈ wsA := inA (tb4 (List.mem_of_getElem? (i := 85) rfl)) rfl
theorem mS_X6_image : Cond.selects RX6 yX6_image yX6_image ∈ wsA := inA (tb4 (List.mem_of_getElem? (i := 86) rfl)) rfl
theorem mC_X6_image : Cond.code yX6_image cX6_image 1 (some .int) ∈ wsA := inA (tb4 (List.mem_of_getElem? (i := 87) rfl)) rfl
theorem mL_X6_172 : Cond.methodLink RX6 172 yX6_copy ∈ wsA := inA (tb4 (List.mem_of_getElem? (i := 88) rfl)) rfl
theorem mT_X6_copy : Cond.static yX6_copy ∈ wsA := inA (tb4 (List.mem_of_getElem? (i := 89) rfl)) rfl
theorem mC_X6_copy : Cond.code yX6_copy cX6_copy 3 none ∈ wsA := inA (tb4 (List.mem_of_getElem? (i := 90) rfl)) rfl
theorem mL_L_92 : Cond.methodLink RL 92 yX6_restore ∈ wsA := inA (tb4 (List.mem_of_getElem? (i := 91) rfl)) rfl
theorem mI_X6_restore : Cond.instanceMethod yX6_restore ∈ wsA := inA (tb4 (List.mem_of_getElem? (i := 92) rfl)) rfl
theorem mS_X6_restore : Cond.selects RX6 yX6_restore yX6_restore ∈ wsA := inA (tb4 (List.mem_of_getElem? (i := 93) rfl)) rfl
theorem mC_X6_restore : Cond.code yX6_restore cX6_restore 1 (some .int) ∈ wsA := inA (tb4 (List.mem_of_getElem? (i := 94) rfl)) rfl
theorem mL_L_96 : Cond.methodLink RL 96 yX6_count ∈ wsA := inA (tb4 (List.mem_of_getElem? (i := 95) rfl)) rfl
theorem mI_X6_count : Cond.instanceMethod yX6_count ∈ wsA := inA (tb4 (List.mem_of_getElem? (i := 96) rfl)) rfl
theorem mS_X6_count : Cond.selects RX6 yX6_count yX6_count ∈ wsA := inA (tb4 (List.mem_of_getElem? (i := 97) rfl)) rfl
theorem mC_X6_count : Cond.code yX6_count cX6_count 2 (some .int) ∈ wsA := inA (tb4 (List.mem_of_getElem? (i := 98) rfl)) rfl
theorem mL_X6_191 : Cond.methodLink RX6 191 yX6_countOf ∈ wsA := inA (tb4 (List.mem_of_getElem? (i := 99) rfl)) rfl
theorem mI_X6_countOf : Cond.instanceMethod yX6_countOf ∈ wsA := inA (tb4 (List.mem_of_getElem? (i := 101) rfl)) rfl
theorem mC_X6_countOf : Cond.code yX6_countOf cX6_countOf 2 (some .int) ∈ wsA := inA (tb4 (List.mem_of_getElem? (i := 102) rfl)) rfl
theorem mL_X6_185 : Cond.methodLink RX6 185 yX6_lengthAll ∈ wsA := inA (tb4 (List.mem_of_getElem? (i := 103) rfl)) rfl
theorem mI_X6_lengthAll : Cond.instanceMethod yX6_lengthAll ∈ wsA := inA (tb4 (List.mem_of_getElem? (i := 105) rfl)) rfl
theorem mC_X6_lengthAll : Cond.code yX6_lengthAll cX6_lengthAll 3 (some .int) ∈ wsA := inA (tb4 (List.mem_of_getElem? (i := 106) rfl)) rfl
theorem mL_X6_188 : Cond.methodLink RX6 188 yX6_heardAll ∈ wsA := inA (tb4 (List.mem_of_getElem? (i := 107) rfl)) rfl
theorem mI_X6_heardAll : Cond.instanceMethod yX6_heardAll ∈ wsA := inA (tb4 (List.mem_of_getElem? (i := 109) rfl)) rfl
theorem mC_X6_heardAll : Cond.code yX6_heardAll cX6_heardAll 1 (some .int) ∈ wsA := inA (tb4 (List.mem_of_getElem? (i := 110) rfl)) rfl
theorem mL_L_101 : Cond.methodLink RL 101 yX6_digest ∈ wsA := inA (tb4 (List.mem_of_getElem? (i := 111) rfl)) rfl
theorem mI_X6_digest : Cond.instanceMethod yX6_digest ∈ wsA := inA (tb4 (List.mem_of_getElem? (i := 112) rfl)) rfl
theorem mS_X6_digest : Cond.selects RX6 yX6_digest yX6_digest ∈ wsA := inA (tb4 (List.mem_of_getElem? (i := 113) rfl)) rfl
theorem mC_X6_digest : Cond.code yX6_digest cX6_digest 3 (some .long) ∈ wsA := inA (tb4 (List.mem_of_getElem? (i := 114) rfl)) rfl
theorem mK_X6_204 : Cond.constantLong RX6 204 (1069) ∈ wsA := inA (tb4 (List.mem_of_getElem? (i := 115) rfl)) rfl
theorem mL_X6_200 : Cond.methodLink RX6 200 yX6_say ∈ wsA := inA (tb4 (List.mem_of_getElem? (i := 116) rfl)) rfl
theorem mI_X6_say : Cond.instanceMethod yX6_say ∈ wsA := inA (tb4 (List.mem_of_getElem? (i := 118) rfl)) rfl
theorem mC_X6_say : Cond.code yX6_say cX6_say 3 none ∈ wsA := inA (tb4 (List.mem_of_getElem? (i := 119) rfl)) rfl
theorem mK_X6_194 : Cond.constantLong RX6 194 (31) ∈ wsA := inA (tb4 (List.mem_of_getElem? (i := 120) rfl)) rfl
theorem mL_X6_206 : Cond.methodLink RX6 206 yX6_sayHill ∈ wsA := inA (tb4 (List.mem_of_getElem? (i := 121) rfl)) rfl
theorem mI_X6_sayHill : Cond.instanceMethod yX6_sayHill ∈ wsA := inA (tb4 (List.mem_of_getElem? (i := 123) rfl)) rfl
theorem mC_X6_sayHill : Cond.code yX6_sayHill cX6_sayHill 3 none ∈ wsA := inA (tb4 (List.mem_of_getElem? (i := 124) rfl)) rfl
theorem mF_J0_15 : Cond.fieldLink RJ0 15 "java/lang/String" "coder" "B" ∈ wsA := inA (tb4 (List.mem_of_getElem? (i := 125) rfl)) rfl
theorem mF_J0_9 : Cond.fieldLink RJ0 9 "java/lang/String" "value" "[B" ∈ wsA := inA (tb4 (List.mem_of_getElem? (i := 126) rfl)) rfl
theorem mS_X1_fits : Cond.selects RX1 yX1_fits yX1_fits ∈ wsA := inA (tbs (q := (yX1_fits, 2)) (List.mem_append_left _ (List.mem_of_getElem? (i := 0) rfl))) rfl
theorem mS_X5_point : Cond.selects RX5 yX5_point yX5_point ∈ wsA := inA (tbs (q := (yX5_point, 8)) (List.mem_append_left _ (List.mem_of_getElem? (i := 1) rfl))) rfl
theorem mS_X5_isTunnel : Cond.selects RX5 yX5_isTunnel yX5_isTunnel ∈ wsA := inA (tbs (q := (yX5_isTunnel, 8)) (List.mem_append_left _ (List.mem_of_getElem? (i := 2) rfl))) rfl
theorem mS_X5_lengthOf : Cond.selects RX5 yX5_lengthOf yX5_lengthOf ∈ wsA := inA (tbs (q := (yX5_lengthOf, 8)) (List.mem_append_left _ (List.mem_of_getElem? (i := 3) rfl))) rfl
theorem mS_X5_fewestToTell : Cond.selects RX5 yX5_fewestToTell yX5_fewestToTell ∈ wsA := inA (tbs (q := (yX5_fewestToTell, 8)) (List.mem_append_left _ (List.mem_of_getElem? (i := 4) rfl))) rfl
theorem mS_X3_agrees : Cond.selects RX3 yX3_agrees yX3_agrees ∈ wsA := inA (tbs (q := (yX3_agrees, 4)) (List.mem_append_left _ (List.mem_of_getElem? (i := 5) rfl))) rfl
theorem mS_X3_leftAtWorst : Cond.selects RX3 yX3_leftAtWorst yX3_leftAtWorst ∈ wsA := inA (tbs (q := (yX3_leftAtWorst, 4)) (List.mem_append_left _ (List.mem_of_getElem? (i := 6) rfl))) rfl
theorem mS_X5_lengthOfAll : Cond.selects RX5 yX5_lengthOfAll yX5_lengthOfAll ∈ wsA := inA (tbs (q := (yX5_lengthOfAll, 8)) (List.mem_append_left _ (List.mem_of_getElem? (i := 7) rfl))) rfl
theorem mS_X5_withPeople : Cond.selects RX5 yX5_withPeople yX5_withPeople ∈ wsA := inA (tbs (q := (yX5_withPeople, 8)) (List.mem_append_left _ (List.mem_of_getElem? (i := 8) rfl))) rfl
theorem mS_X5_withTunnels : Cond.selects RX5 yX5_withTunnels yX5_withTunnels ∈ wsA := inA (tbs (q := (yX5_withTunnels, 8)) (List.mem_append_left _ (List.mem_of_getElem? (i := 9) rfl))) rfl
theorem mS_X5_withLetters : Cond.selects RX5 yX5_withLetters yX5_withLetters ∈ wsA := inA (tbs (q := (yX5_withLetters, 8)) (List.mem_append_left _ (List.mem_of_getElem? (i := 10) rfl))) rfl
theorem mS_X6_faultOf : Cond.selects RX6 yX6_faultOf yX6_faultOf ∈ wsA := inA (tbs (q := (yX6_faultOf, 22)) (List.mem_append_left _ (List.mem_of_getElem? (i := 11) rfl))) rfl
theorem mS_X6_isGood : Cond.selects RX6 yX6_isGood yX6_isGood ∈ wsA := inA (tbs (q := (yX6_isGood, 22)) (List.mem_append_left _ (List.mem_of_getElem? (i := 12) rfl))) rfl
theorem mS_X6_isPerson : Cond.selects RX6 yX6_isPerson yX6_isPerson ∈ wsA := inA (tbs (q := (yX6_isPerson, 22)) (List.mem_append_left _ (List.mem_of_getElem? (i := 13) rfl))) rfl
theorem mS_X6_tellPerson : Cond.selects RX6 yX6_tellPerson yX6_tellPerson ∈ wsA := inA (tbs (q := (yX6_tellPerson, 22)) (List.mem_append_left _ (List.mem_of_getElem? (i := 14) rfl))) rfl
theorem mS_X6_tellsOf : Cond.selects RX6 yX6_tellsOf yX6_tellsOf ∈ wsA := inA (tbs (q := (yX6_tellsOf, 22)) (List.mem_append_left _ (List.mem_of_getElem? (i := 15) rfl))) rfl
theorem mS_X6_tunnelsOf : Cond.selects RX6 yX6_tunnelsOf yX6_tunnelsOf ∈ wsA := inA (tbs (q := (yX6_tunnelsOf, 22)) (List.mem_append_right _ (List.mem_append_left _ (List.mem_of_getElem? (i := 0) rfl)))) rfl
theorem mS_X6_endsOf : Cond.selects RX6 yX6_endsOf yX6_endsOf ∈ wsA := inA (tbs (q := (yX6_endsOf, 22)) (List.mem_append_right _ (List.mem_append_left _ (List.mem_of_getElem? (i := 1) rfl)))) rfl
theorem mS_X6_endBy : Cond.selects RX6 yX6_endBy yX6_endBy ∈ wsA := inA (tbs (q := (yX6_endBy, 22)) (List.mem_append_right _ (List.mem_append_left _ (List.mem_of_getElem? (i := 2) rfl)))) rfl
theorem mS_X6_toldBy : Cond.selects RX6 yX6_toldBy yX6_toldBy ∈ wsA := inA (tbs (q := (yX6_toldBy, 22)) (List.mem_append_right _ (List.mem_append_left _ (List.mem_of_getElem? (i := 3) rfl)))) rfl
theorem mS_X6_lengthBy : Cond.selects RX6 yX6_lengthBy yX6_lengthBy ∈ wsA := inA (tbs (q := (yX6_lengthBy, 22)) (List.mem_append_right _ (List.mem_append_left _ (List.mem_of_getElem? (i := 4) rfl)))) rfl
theorem mS_X6_lastsOf : Cond.selects RX6 yX6_lastsOf yX6_lastsOf ∈ wsA := inA (tbs (q := (yX6_lastsOf, 22)) (List.mem_append_right _ (List.mem_append_left _ (List.mem_of_getElem? (i := 5) rfl)))) rfl
theorem mS_X6_dayOf : Cond.selects RX6 yX6_dayOf yX6_dayOf ∈ wsA := inA (tbs (q := (yX6_dayOf, 22)) (List.mem_append_right _ (List.mem_append_left _ (List.mem_of_getElem? (i := 6) rfl)))) rfl
theorem mS_X6_isTunnel : Cond.selects RX6 yX6_isTunnel yX6_isTunnel ∈ wsA := inA (tbs (q := (yX6_isTunnel, 22)) (List.mem_append_right _ (List.mem_append_left _ (List.mem_of_getElem? (i := 7) rfl)))) rfl
theorem mS_X6_lacks : Cond.selects RX6 yX6_lacks yX6_lacks ∈ wsA := inA (tbs (q := (yX6_lacks, 22)) (List.mem_append_right _ (List.mem_append_left _ (List.mem_of_getElem? (i := 8) rfl)))) rfl
theorem mS_X6_lengthOf : Cond.selects RX6 yX6_lengthOf yX6_lengthOf ∈ wsA := inA (tbs (q := (yX6_lengthOf, 22)) (List.mem_append_right _ (List.mem_append_left _ (List.mem_of_getElem? (i := 9) rfl)))) rfl
theorem mS_X6_tellTunnel : Cond.selects RX6 yX6_tellTunnel yX6_tellTunnel ∈ wsA := inA (tbs (q := (yX6_tellTunnel, 22)) (List.mem_append_right _ (List.mem_append_left _ (List.mem_of_getElem? (i := 10) rfl)))) rfl
theorem mS_X6_aimOf : Cond.selects RX6 yX6_aimOf yX6_aimOf ∈ wsA := inA (tbs (q := (yX6_aimOf, 22)) (List.mem_append_right _ (List.mem_append_left _ (List.mem_of_getElem? (i := 11) rfl)))) rfl
theorem mS_X6_beganOf : Cond.selects RX6 yX6_beganOf yX6_beganOf ∈ wsA := inA (tbs (q := (yX6_beganOf, 22)) (List.mem_append_right _ (List.mem_append_left _ (List.mem_of_getElem? (i := 12) rfl)))) rfl
theorem mS_X6_askOf : Cond.selects RX6 yX6_askOf yX6_askOf ∈ wsA := inA (tbs (q := (yX6_askOf, 22)) (List.mem_append_right _ (List.mem_append_left _ (List.mem_of_getElem? (i := 13) rfl)))) rfl
theorem mS_X6_draw : Cond.selects RX6 yX6_draw yX6_draw ∈ wsA := inA (tbs (q := (yX6_draw, 22)) (List.mem_append_right _ (List.mem_append_left _ (List.mem_of_getElem? (i := 14) rfl)))) rfl
theorem mS_X6_countOf : Cond.selects RX6 yX6_countOf yX6_countOf ∈ wsA := inA (tbs (q := (yX6_countOf, 22)) (List.mem_append_right _ (List.mem_append_left _ (List.mem_of_getElem? (i := 15) rfl)))) rfl
theorem mS_X6_lengthAll : Cond.selects RX6 yX6_lengthAll yX6_lengthAll ∈ wsA := inA (tbs (q := (yX6_lengthAll, 22)) (List.mem_append_right _ (List.mem_append_right _ (List.mem_of_getElem? (i := 0) rfl)))) rfl
theorem mS_X6_heardAll : Cond.selects RX6 yX6_heardAll yX6_heardAll ∈ wsA := inA (tbs (q := (yX6_heardAll, 22)) (List.mem_append_right _ (List.mem_append_right _ (List.mem_of_getElem? (i := 1) rfl)))) rfl
theorem mS_X6_say : Cond.selects RX6 yX6_say yX6_say ∈ wsA := inA (tbs (q := (yX6_say, 22)) (List.mem_append_right _ (List.mem_append_right _ (List.mem_of_getElem? (i := 2) rfl)))) rfl
theorem mS_X6_sayHill : Cond.selects RX6 yX6_sayHill yX6_sayHill ∈ wsA := inA (tbs (q := (yX6_sayHill, 22)) (List.mem_append_right _ (List.mem_append_right _ (List.mem_of_getElem? (i := 3) rfl)))) rfl
theorem mY_X0_0 : u_lay RX0 TX0 0 ∈ wsA := inA (tb1 (List.mem_of_getElem? (i := 52) rfl)) rfl
theorem mY_X0_1 : u_lay RX0 TX0 1 ∈ wsA := inA (tb1 (List.mem_of_getElem? (i := 54) rfl)) rfl
theorem mY_X0_2 : u_lay RX0 TX0 2 ∈ wsA := inA (tb1 (List.mem_of_getElem? (i := 56) rfl)) rfl
theorem in_X0 : ∀ w ∈ u_ws RX0 TX0 3, w ∈ wsA := by
  intro w hw
  obtain ⟨k, hk, rfl⟩ := List.mem_map.mp hw
  have hk := List.mem_range.mp hk
  match k, hk with
  | 0, _ => exact mY_X0_0
  | 1, _ => exact mY_X0_1
  | 2, _ => exact mY_X0_2
theorem mY_X1_0 : u_lay RX1 TX1 0 ∈ wsA := inA (tb1 (List.mem_of_getElem? (i := 33) rfl)) rfl
theorem mY_X1_1 : u_lay RX1 TX1 1 ∈ wsA := inA (tb1 (List.mem_of_getElem? (i := 35) rfl)) rfl
theorem in_X1 : ∀ w ∈ u_ws RX1 TX1 2, w ∈ wsA := by
  intro w hw
  obtain ⟨k, hk, rfl⟩ := List.mem_map.mp hw
  have hk := List.mem_range.mp hk
  match k, hk with
  | 0, _ => exact mY_X1_0
  | 1, _ => exact mY_X1_1
theorem mY_X2_0 : u_lay RX2 TX2 0 ∈ wsA := inA (tb1 (List.mem_of_getElem? (i := 84) rfl)) rfl
theorem mY_X2_1 : u_lay RX2 TX2 1 ∈ wsA := inA (tb1 (List.mem_of_getElem? (i := 86) rfl)) rfl
theorem mY_X2_2 : u_lay RX2 TX2 2 ∈ wsA := inA (tb1 (List.mem_of_getElem? (i := 88) rfl)) rfl
theorem mY_X2_3 : u_lay RX2 TX2 3 ∈ wsA := inA (tb1 (List.mem_of_getElem? (i := 90) rfl)) rfl
theorem mY_X2_4 : u_lay RX2 TX2 4 ∈ wsA := inA (tb1 (List.mem_of_getElem? (i := 92) rfl)) rfl
theorem mY_X2_5 : u_lay RX2 TX2 5 ∈ wsA := inA (tb1 (List.mem_of_getElem? (i := 94) rfl)) rfl
theorem mY_X2_6 : u_lay RX2 TX2 6 ∈ wsA := inA (tb1 (List.mem_of_getElem? (i := 96) rfl)) rfl
theorem mY_X2_7 : u_lay RX2 TX2 7 ∈ wsA := inA (tb1 (List.mem_of_getElem? (i := 98) rfl)) rfl
theorem mY_X2_8 : u_lay RX2 TX2 8 ∈ wsA := inA (tb1 (List.mem_of_getElem? (i := 100) rfl)) rfl
theorem mY_X2_9 : u_lay RX2 TX2 9 ∈ wsA := inA (tb1 (List.mem_of_getElem? (i := 102) rfl)) rfl
theorem in_X2 : ∀ w ∈ u_ws RX2 TX2 10, w ∈ wsA := by
  intro w hw
  obtain ⟨k, hk, rfl⟩ := List.mem_map.mp hw
  have hk := List.mem_range.mp hk
  match k, hk with
  | 0, _ => exact mY_X2_0
  | 1, _ => exact mY_X2_1
  | 2, _ => exact mY_X2_2
  | 3, _ => exact mY_X2_3
  | 4, _ => exact mY_X2_4
  | 5, _ => exact mY_X2_5
  | 6, _ => exact mY_X2_6
  | 7, _ => exact mY_X2_7
  | 8, _ => exact mY_X2_8
  | 9, _ => exact mY_X2_9
theorem mY_X3_0 : u_lay RX3 TX3 0 ∈ wsA := inA (tb1 (List.mem_of_getElem? (i := 128) rfl)) rfl
theorem mY_X3_1 : u_lay RX3 TX3 1 ∈ wsA := inA (tb1 (List.mem_of_getElem? (i := 130) rfl)) rfl
theorem mY_X3_2 : u_lay RX3 TX3 2 ∈ wsA := inA (tb1 (List.mem_of_getElem? (i := 132) rfl)) rfl
theorem mY_X3_3 : u_lay RX3 TX3 3 ∈ wsA := inA (tb1 (List.mem_of_getElem? (i := 134) rfl)) rfl
theorem in_X3 : ∀ w ∈ u_ws RX3 TX3 4, w ∈ wsA := by
  intro w hw
  obtain ⟨k, hk, rfl⟩ := List.mem_map.mp hw
  have hk := List.mem_range.mp hk
  match k, hk with
  | 0, _ => exact mY_X3_0
  | 1, _ => exact mY_X3_1
  | 2, _ => exact mY_X3_2
  | 3, _ => exact mY_X3_3
theorem mY_X4_0 : u_lay RX4 TX4 0 ∈ wsA := inA (tb1 (List.mem_of_getElem? (i := 113) rfl)) rfl
theorem mY_X4_1 : u_lay RX4 TX4 1 ∈ wsA := inA (tb1 (List.mem_of_getElem? (i := 115) rfl)) rfl
theorem in_X4 : ∀ w ∈ u_ws RX4 TX4 2, w ∈ wsA := by
  intro w hw
  obtain ⟨k, hk, rfl⟩ := List.mem_map.mp hw
  have hk := List.mem_range.mp hk
  match k, hk with
  | 0, _ => exact mY_X4_0
  | 1, _ => exact mY_X4_1
theorem mY_X5_0 : u_lay RX5 TX5 0 ∈ wsA := inA (tb1 (List.mem_of_getElem? (i := 145) rfl)) rfl
theorem mY_X5_1 : u_lay RX5 TX5 1 ∈ wsA := inA (tb1 (List.mem_of_getElem? (i := 147) rfl)) rfl
theorem mY_X5_2 : u_lay RX5 TX5 2 ∈ wsA := inA (tb1 (List.mem_of_getElem? (i := 149) rfl)) rfl
theorem mY_X5_3 : u_lay RX5 TX5 3 ∈ wsA := inA (tb1 (List.mem_of_getElem? (i := 151) rfl)) rfl
theorem mY_X5_4 : u_lay RX5 TX5 4 ∈ wsA := inA (tb1 (List.mem_of_getElem? (i := 153) rfl)) rfl
theorem mY_X5_5 : u_lay RX5 TX5 5 ∈ wsA := inA (tb1 (List.mem_of_getElem? (i := 155) rfl)) rfl
theorem mY_X5_6 : u_lay RX5 TX5 6 ∈ wsA := inA (tb1 (List.mem_of_getElem? (i := 157) rfl)) rfl
theorem mY_X5_7 : u_lay RX5 TX5 7 ∈ wsA := inA (tb1 (List.mem_of_getElem? (i := 159) rfl)) rfl
theorem in_X5 : ∀ w ∈ u_ws RX5 TX5 8, w ∈ wsA := by
  intro w hw
  obtain ⟨k, hk, rfl⟩ := List.mem_map.mp hw
  have hk := List.mem_range.mp hk
  match k, hk with
  | 0, _ => exact mY_X5_0
  | 1, _ => exact mY_X5_1
  | 2, _ => exact mY_X5_2
  | 3, _ => exact mY_X5_3
  | 4, _ => exact mY_X5_4
  | 5, _ => exact mY_X5_5
  | 6, _ => exact mY_X5_6
  | 7, _ => exact mY_X5_7
theorem mY_X6_0 : u_lay RX6 TX6 0 ∈ wsA := inA (tb3 (List.mem_of_getElem? (i := 104) rfl)) rfl
theorem mY_X6_1 : u_lay RX6 TX6 1 ∈ wsA := inA (tb3 (List.mem_of_getElem? (i := 106) rfl)) rfl
theorem mY_X6_2 : u_lay RX6 TX6 2 ∈ wsA := inA (tb3 (List.mem_of_getElem? (i := 108) rfl)) rfl
theorem mY_X6_3 : u_lay RX6 TX6 3 ∈ wsA := inA (tb3 (List.mem_of_getElem? (i := 110) rfl)) rfl
theorem mY_X6_4 : u_lay RX6 TX6 4 ∈ wsA := inA (tb3 (List.mem_of_getElem? (i := 112) rfl)) rfl
theorem mY_X6_5 : u_lay RX6 TX6 5 ∈ wsA := inA (tb3 (List.mem_of_getElem? (i := 114) rfl)) rfl
theorem mY_X6_6 : u_lay RX6 TX6 6 ∈ wsA := inA (tb3 (List.mem_of_getElem? (i := 116) rfl)) rfl
theorem mY_X6_7 : u_lay RX6 TX6 7 ∈ wsA := inA (tb3 (List.mem_of_getElem? (i := 118) rfl)) rfl
theorem mY_X6_8 : u_lay RX6 TX6 8 ∈ wsA := inA (tb3 (List.mem_of_getElem? (i := 120) rfl)) rfl
theorem mY_X6_9 : u_lay RX6 TX6 9 ∈ wsA := inA (tb3 (List.mem_of_getElem? (i := 122) rfl)) rfl
theorem mY_X6_10 : u_lay RX6 TX6 10 ∈ wsA := inA (tb3 (List.mem_of_getElem? (i := 124) rfl)) rfl
theorem mY_X6_11 : u_lay RX6 TX6 11 ∈ wsA := inA (tb3 (List.mem_of_getElem? (i := 126) rfl)) rfl
theorem mY_X6_12 : u_lay RX6 TX6 12 ∈ wsA := inA (tb3 (List.mem_of_getElem? (i := 128) rfl)) rfl
theorem mY_X6_13 : u_lay RX6 TX6 13 ∈ wsA := inA (tb3 (List.mem_of_getElem? (i := 130) rfl)) rfl
theorem mY_X6_14 : u_lay RX6 TX6 14 ∈ wsA := inA (tb3 (List.mem_of_getElem? (i := 132) rfl)) rfl
theorem mY_X6_15 : u_lay RX6 TX6 15 ∈ wsA := inA (tb3 (List.mem_of_getElem? (i := 134) rfl)) rfl
theorem mY_X6_16 : u_lay RX6 TX6 16 ∈ wsA := inA (tb3 (List.mem_of_getElem? (i := 136) rfl)) rfl
theorem mY_X6_17 : u_lay RX6 TX6 17 ∈ wsA := inA (tb3 (List.mem_of_getElem? (i := 138) rfl)) rfl
theorem mY_X6_18 : u_lay RX6 TX6 18 ∈ wsA := inA (tb3 (List.mem_of_getElem? (i := 140) rfl)) rfl
theorem mY_X6_19 : u_lay RX6 TX6 19 ∈ wsA := inA (tb3 (List.mem_of_getElem? (i := 142) rfl)) rfl
theorem mY_X6_20 : u_lay RX6 TX6 20 ∈ wsA := inA (tb3 (List.mem_of_getElem? (i := 144) rfl)) rfl
theorem mY_X6_21 : u_lay RX6 TX6 21 ∈ wsA := inA (tb3 (List.mem_of_getElem? (i := 146) rfl)) rfl
theorem in_X6 : ∀ w ∈ u_ws RX6 TX6 22, w ∈ wsA := by
  intro w hw
  obtain ⟨k, hk, rfl⟩ := List.mem_map.mp hw
  have hk := List.mem_range.mp hk
  match k, hk with
  | 0, _ => exact mY_X6_0
  | 1, _ => exact mY_X6_1
  | 2, _ => exact mY_X6_2
  | 3, _ => exact mY_X6_3
  | 4, _ => exact mY_X6_4
  | 5, _ => exact mY_X6_5
  | 6, _ => exact mY_X6_6
  | 7, _ => exact mY_X6_7
  | 8, _ => exact mY_X6_8
  | 9, _ => exact mY_X6_9
  | 10, _ => exact mY_X6_10
  | 11, _ => exact mY_X6_11
  | 12, _ => exact mY_X6_12
  | 13, _ => exact mY_X6_13
  | 14, _ => exact mY_X6_14
  | 15, _ => exact mY_X6_15
  | 16, _ => exact mY_X6_16
  | 17, _ => exact mY_X6_17
  | 18, _ => exact mY_X6_18
  | 19, _ => exact mY_X6_19
  | 20, _ => exact mY_X6_20
  | 21, _ => exact mY_X6_21
  | k + 22, h => exact absurd h (by omega)
def nwF : List (String × Nat × String × String × String × String) := [(RX5, 63, "DugBySaid$Page", "length", "I", "DugBySaid"), (RX3, 27, "DugBySaid$Hill", "people", "I", "DugBySaid"), (RX4, 19, "DugBySaid$Hill", "people", "I", "DugBySaid"), (RX5, 84, "DugBySaid$Hill", "people", "I", "DugBySaid"), (RX5, 197, "DugBySaid$Hill", "river", "I", "DugBySaid"), (RX5, 134, "DugBySaid$Past", "heard", "[I", "DugBySaid"), (RX5, 138, "DugBySaid$Past", "last", "[I", "DugBySaid"), (RX5, 158, "DugBySaid$Past", "denied", "[I", "DugBySaid"), (RX3, 46, "DugBySaid$Past", "askedWhom", "[I", "DugBySaid"), (RX3, 54, "DugBySaid$Past", "askedDay", "[I", "DugBySaid"), (RX3, 41, "DugBySaid$Past", "asked", "I", "DugBySaid"), (RX5, 173, "DugBySaid$Past", "asked", "I", "DugBySaid"), (RX5, 147, "DugBySaid$Past", "days", "I", "DugBySaid"), (RX5, 120, "DugBySaid$Past", "changes", "I", "DugBySaid")]
def nwM : List (String × Nat × MethodName × String) := [(RX0, 48, yX5_isOfKind, "DugBySaid"), (RX2, 53, yX5_isIn, "DugBySaid"), (RX4, 25, yX5_isIn, "DugBySaid"), (RX0, 52, yX5_isIn, "DugBySaid"), (RX3, 57, yX5_isIn, "DugBySaid")]
theorem nwF_in : ∀ q ∈ nwF, Cond.fieldLinkNest q.1 q.2.1 q.2.2.1 q.2.2.2.1 q.2.2.2.2.1 q.2.2.2.2.2 ∈ lw_tbl := List.forall_mem_cons.mpr ⟨tb1 (List.mem_of_getElem? (i := 32) rfl), List.forall_mem_cons.mpr ⟨tb1 (List.mem_of_getElem? (i := 47) rfl), List.forall_mem_cons.mpr ⟨tb1 (List.mem_of_getElem? (i := 48) rfl), List.forall_mem_cons.mpr ⟨tb1 (List.mem_of_getElem? (i := 49) rfl), List.forall_mem_cons.mpr ⟨tb1 (List.mem_of_getElem? (i := 51) rfl), List.forall_mem_cons.mpr ⟨tb1 (List.mem_of_getElem? (i := 68) rfl), List.forall_mem_cons.mpr ⟨tb1 (List.mem_of_getElem? (i := 70) rfl), List.forall_mem_cons.mpr ⟨tb1 (List.mem_of_getElem? (i := 72) rfl), List.forall_mem_cons.mpr ⟨tb1 (List.mem_of_getElem? (i := 74) rfl), List.forall_mem_cons.mpr ⟨tb1 (List.mem_of_getElem? (i := 76) rfl), List.forall_mem_cons.mpr ⟨tb1 (List.mem_of_getElem? (i := 78) rfl), List.forall_mem_cons.mpr ⟨tb1 (List.mem_of_getElem? (i := 79) rfl), List.forall_mem_cons.mpr ⟨tb1 (List.mem_of_getElem? (i := 81) rfl), List.forall_mem_cons.mpr ⟨tb1 (List.mem_of_getElem? (i := 83) rfl), fun _ h => absurd h List.not_mem_nil⟩⟩⟩⟩⟩⟩⟩⟩⟩⟩⟩⟩⟩⟩
theorem nwM_in : ∀ q ∈ nwM, Cond.methodLinkNest q.1 q.2.1 q.2.2.1 q.2.2.2 ∈ lw_tbl := List.forall_mem_cons.mpr ⟨tb2 (List.mem_of_getElem? (i := 100) rfl), List.forall_mem_cons.mpr ⟨tb2 (List.mem_of_getElem? (i := 121) rfl), List.forall_mem_cons.mpr ⟨tb2 (List.mem_of_getElem? (i := 136) rfl), List.forall_mem_cons.mpr ⟨tb2 (List.mem_of_getElem? (i := 142) rfl), List.forall_mem_cons.mpr ⟨tb3 (List.mem_of_getElem? (i := 7) rfl), fun _ h => absurd h List.not_mem_nil⟩⟩⟩⟩⟩
end
section
/-! ===== my base: one form of contract for all methods (Ct), its entry, its ends, its calls ===== -/
abbrev wA (y : MethodName) (cc : ByteArray) (nL : Nat) (ret : Option FieldType) : List Cond := Cond.code y cc nL ret :: wsA
theorem wsA_good : ∀ w ∈ wsA, (w.onTables && w.keeps) = true ∨ ∃ ty, w = .arrayClass ty := fun w h => good_of_word (List.mem_filter.mp h).2
theorem gA {y0 y : MethodName} {c0 cc : ByteArray} {nL0 nL : Nat} {ret0 ret : Option FieldType} (h : Cond.code y cc nL ret ∈ wsA) : GoodIn (wA y0 c0 nL0 ret0) (wA y cc nL ret) := by
  intro w hw
  rcases List.mem_cons.mp hw with rfl | hw
  · exact ⟨List.mem_cons_of_mem _ h, wsA_good _ h⟩
  · exact ⟨List.mem_cons_of_mem _ hw, wsA_good _ hw⟩
/-- what a call of an instance method asks of the tables, but its link -/
abbrev gV (y : MethodName) (cc : ByteArray) (nL : Nat) (ret : Option FieldType) : Prop := Cond.instanceMethod y ∈ wsA ∧ Cond.selects y.cls y y ∈ wsA ∧ Cond.initialized y.cls ∈ wsA ∧ Cond.code y cc nL ret ∈ wsA
abbrev gS (y : MethodName) (cc : ByteArray) (nL : Nat) (ret : Option FieldType) : Prop := Cond.static y ∈ wsA ∧ Cond.initialized y.cls ∈ wsA ∧ Cond.code y cc nL ret ∈ wsA
abbrev gD (y : MethodName) (n : Nat) : Prop := y.cls ≠ "java/lang/invoke/MethodHandle" ∧ y.cls ≠ "java/lang/invoke/VarHandle" ∧ (parseMethodDescriptor y.desc).map (fun d => d.parameters.length) = some n
theorem gAV {y0 y : MethodName} {c0 cc : ByteArray} {nL0 nL idx : Nat} {own : String} {ret0 ret : Option FieldType} (hl : Cond.methodLink own idx y ∈ wsA) (hg : gV y cc nL ret) : GoodIn (wA y0 c0 nL0 ret0) (wsV own idx y.cls y (wA y cc nL ret)) := by
  obtain ⟨h1, h2, h3, h4⟩ := hg
  refine goodIn_app (fun w hw => ?_) (gA h4)
  have hw' : w ∈ wsA := by
    simp only [List.mem_cons, List.not_mem_nil, or_false] at hw
    rcases hw with rfl | rfl | rfl | rfl
    · exact hl
    · exact h1
    · exact h2
    · exact h3
  exact ⟨List.mem_cons_of_mem _ hw', wsA_good _ hw'⟩
theorem gAS {y0 y : MethodName} {c0 cc : ByteArray} {nL0 nL idx : Nat} {own : String} {ret0 ret : Option FieldType} (hl : Cond.methodLink own idx y ∈ wsA) (hg : gS y cc nL ret) : GoodIn (wA y0 c0 nL0 ret0) (va_wsS own idx y (wA y cc nL ret)) := by
  obtain ⟨h1, h3, h4⟩ := hg
  refine goodIn_app (fun w hw => ?_) (gA h4)
  have hw' : w ∈ wsA := by
    simp only [List.mem_cons, List.not_mem_nil, or_false] at hw
    rcases hw with rfl | rfl | rfl
    · exact hl
    · exact h1
    · exact h3
  exact ⟨List.mem_cons_of_mem _ hw', wsA_good _ hw'⟩
/-- the words of nest mates -/
def NW (U : State) : Prop := (∀ q ∈ nwF, va_Nw (.fieldLinkNest q.1 q.2.1 q.2.2.1 q.2.2.2.1 q.2.2.2.2.1 q.2.2.2.2.2) U) ∧ (∀ q ∈ nwM, va_Nw (.methodLinkNest q.1 q.2.1 q.2.2.1 q.2.2.2) U)
theorem NW.warm {s U : State} (hW : s.WarmedH U.vm) (h : NW s) : NW U := ⟨fun q hq => va_Nw.warmF hW (h.1 q hq), fun q hq => va_Nw.warmM hW (h.2 q hq)⟩
theorem NW.same {u U : State} (hv : u.vm = U.vm) (h : NW u) : NW U := ⟨fun q hq => va_Nw.same rfl hv (h.1 q hq), fun q hq => va_Nw.same rfl hv (h.2 q hq)⟩
/-- the text constant and the static that its search reads -/
def SW (A : Nat → Prop) (U : State) (H : Heap) : Prop := ∃ aK aV : Nat, vk_R "DugBySaid$Page" 34 "msgcp" aK U ∧ vk_S 1 [5] [[109, 115, 103, 99, 112]] (fun _ => aK) (fun _ => aV) A U H ∧ va_Z "java/lang/String" "COMPACT_STRINGS" "Z" (.int 1) A U H
theorem SW.step {A B : Nat → Prop} {s U : State} {H : Heap} {locs : List Loc} (h : SW A s s.heap) (hS : va_S A s.heap H locs) (hAB : ∀ q, B q → A q) (hU : U.heap = H) (hW : s.WarmedH U.vm) : SW B U U.heap := by
  obtain ⟨aK, aV, h1, h2, h3⟩ := h
  rw [hU]
  exact ⟨aK, aV, h1.warm hW, ((h2.kept hS.2.1).moved hW.alike).narrow hAB, ((h3.kept hS.2.1).moved hW.alike).narrow hAB⟩
theorem SW.same {A : Nat → Prop} {u U : State} {H : Heap} (hv : U.vm = u.vm) (h : SW A u H) : SW A U H := by
  obtain ⟨aK, aV, h1, h2, h3⟩ := h
  have ha : u.vm.Alike U.vm := by rw [hv]; exact Vm.Alike.refl _
  exact ⟨aK, aV, h1.same hv, h2.moved ha, h3.moved ha⟩
def Pg (D : va_G) (tys : List (ClassId × FieldType)) (ws : va_W) (sz : Nat) (U : State) : Prop := U.heap.size = sz ∧ va_P D vwCl ws U.heap ∧ va_K D vwCl tys U ∧ va_D (fun _ => True) ws ∧ NW U ∧ SW (va_A ws sz) U U.heap
theorem Pg.blind {D : va_G} {tys : List (ClassId × FieldType)} {ws : va_W} {sz : Nat} {As : List Value} : FrameBlind (va_Pc As (Pg D tys ws sz)) := by
  intro a U g mk q
  obtain ⟨q0, q1, q2, q3, q4, q5, q6⟩ := q
  exact ⟨q0, q1, q2, va_K.moved (u := U) (U := U.calling g mk a) (Vm.Alike.refl U.vm) q3, q4, NW.same (u := U) (U := U.calling g mk a) rfl q5, SW.same (u := U) (U := U.calling g mk a) rfl q6⟩
def Qg (D : va_G) (ws' : va_W) (rv : Option Value) (A : Nat → Prop) : Array Value → State → Outcome → State → Prop := fun _ st oc t => (oc = .returned rv ∧ va_P D vwCl ws' t.heap ∧ va_D A ws') ∧ va_F A st t
/-- the contract: with the arguments As and the world ws the method comes back with rv, and the world is ws' -/
def Ct (l : Launch) (D : va_G) (tys : List (ClassId × FieldType)) (y : MethodName) (cc : ByteArray) (nL : Nat) (ret : Option FieldType) (fr lo : Nat) (ws ws' : va_W) (As : List Value) (rv : Option Value) : Prop :=
  ∀ sz : Nat, Met l y (wA y cc nL ret) { frames := fr, cells := 0, slots := 0, locals := lo } (va_Pc As (Pg D tys ws sz)) (Qg D ws' rv (va_A ws sz)) 0 0 (va_A ws sz)
abbrev G (p : Program) (l : Launch) (e : Env) (fr lo : Nat) (s : State) (m : MethodId) (args : Array Value) (below : List Frame) (meth : Method) (c : Code) (D : va_G) (A : Nat → Prop) (ws' : va_W) (rv : Option Value) (H : Heap) (locs : List Loc) (g : JFrame) : Prop :=
  W p l e { frames := fr, cells := 0, slots := 0, locals := lo } s m args below meth c H locs 0 0 (MQ below (Qg D ws' rv A) args s 0 0 A) g
theorem Ct.ofW {l : Launch} {D : va_G} {tys : List (ClassId × FieldType)} {y : MethodName} {cc : ByteArray} {nL : Nat} {ret : Option FieldType} {fr lo : Nat} {ws ws' : va_W} {As : List Value} {rv : Option Value} (hy : plainName y.cls = true) (hn : (lg_sl As).length ≤ nL)
    (body : ∀ (p : Program) (e : Env) (s : State) (m : MethodId) (below : List Frame) (meth : Method) (c : Code) (A : Nat → Prop), CallFix p m c cc nL s As.toArray (wA y cc nL ret) y.cls → meth.sig.returnType = ret → meth.locks = false → (∀ q : Nat, s.heap.size ≤ q → A q) → va_P D vwCl ws s.heap → va_K D vwCl tys s → va_D A ws → NW s → SW A s s.heap → va_S A s.heap s.heap [] → ∀ ls : Array Slot, lv_has ls nL (lv_args 0 As) → G p l e fr lo s m As.toArray below meth c D A ws' rv s.heap [] (F0 m 0 ls [])) : Ct l D tys y cc nL ret fr lo ws ws' As rv := by
  intro sz
  refine Met.ofW (cc := cc) (maxL := nL) (ret := ret) hy rfl ?_
  intro p e s m args below meth c s₁ B hml hv
  obtain ⟨rfl, hsz, hP, hK, hD0, hN, hW⟩ := hv
  subst hsz
  have hD := hD0.self (sz := s.heap.size)
  have hl := lv_entry As (n := nL) hn
  rw [lg_entry_eq]
  exact body p e s m below meth c (va_A ws s.heap.size) ⟨B.exec, B.bytes, hml, findClass_of_methodNamed B.named, atoms_spec (ws := wA y cc nL ret) B.pre⟩ B.returns B.notSynchronized (fun q h => Or.inr h) hP hK hD hN hW va_S.rf _ hl
section RET
variable {p : Program} {l : Launch} {e : Env} {R : Room} {s : State} {m : MethodId} {args : Array Value} {below : List Frame} {meth : Method} {c : Code} {H : Heap} {locs : List Loc} {cells slots : Nat} {Q : State → Prop}
variable {cc : ByteArray} {pc : Nat} {ls : Array Slot} {rest : List Value} {D : va_G} {A : Nat → Prop} {tys : List (ClassId × FieldType)} {fr lo : Nat} {w : va_W}
theorem retI {v r : Int32} (hx : p.tables.exec = Jvm.exec) (hb : c.code = cc) (hr : meth.sig.returnType = some .int) (hlk : meth.locks = false) (hf : some v = some r) (hP : va_P D vwCl w H) (hD : va_D A w) (hS : va_S A s.heap H locs) (hdg : decode cc pc = .ok (.ireturn, 1)) : G p l e fr lo s m args below meth c D A w (some (.int r)) H locs (F0 m pc ls [.int v]) := by
  cases hf
  exact W.iret hx hb hr (fun t ht hW => ⟨⟨rfl, by rw [ht]; exact hP, hD⟩, hS.F ht⟩) hS.2.2 hdg hlk
theorem retZ {v r : Int32} (hx : p.tables.exec = Jvm.exec) (hb : c.code = cc) {ty : FieldType} (hr : meth.sig.returnType = some ty) (hlk : meth.locks = false) (hn : narrow ty (.int v) = .int v) (hf : some v = some r) (hP : va_P D vwCl w H) (hD : va_D A w) (hS : va_S A s.heap H locs) (hdg : decode cc pc = .ok (.ireturn, 1)) : G p l e fr lo s m args below meth c D A w (some (.int r)) H locs (F0 m pc ls [.int v]) := by
  cases hf
  exact W.zret hx hb hr hn (fun t ht hW => ⟨⟨rfl, by rw [ht]; exact hP, hD⟩, hS.F ht⟩) hS.2.2 hdg hlk
theorem retL {v r : Int64} (hx : p.tables.exec = Jvm.exec) (hb : c.code = cc) (hr : meth.sig.returnType = some .long) (hlk : meth.locks = false) (hf : some v = some r) (hP : va_P D vwCl w H) (hD : va_D A w) (hS : va_S A s.heap H locs) (hdg : decode cc pc = .ok (.lreturn, 1)) : G p l e fr lo s m args below meth c D A w (some (.long r)) H locs (F0 m pc ls [.long v]) := by
  cases hf
  exact W.lret hx hb hr (fun t ht hW => ⟨⟨rfl, by rw [ht]; exact hP, hD⟩, hS.F ht⟩) hS.2.2 hdg hlk
theorem retIw {S : Type} {wf : S → va_W} {v r : Int32} {u u' : S} (hx : p.tables.exec = Jvm.exec) (hb : c.code = cc) (hr : meth.sig.returnType = some .int) (hlk : meth.locks = false) (hf : some (v, u) = some (r, u')) (hP : va_P D vwCl (wf u) H) (hD : va_D A (wf u)) (hS : va_S A s.heap H locs) (hdg : decode cc pc = .ok (.ireturn, 1)) : G p l e fr lo s m args below meth c D A (wf u') (some (.int r)) H locs (F0 m pc ls [.int v]) := by
  cases hf
  exact retI hx hb hr hlk rfl hP hD hS hdg
theorem retZw {S : Type} {wf : S → va_W} {v r : Int32} {u u' : S} (hx : p.tables.exec = Jvm.exec) (hb : c.code = cc) {ty : FieldType} (hr : meth.sig.returnType = some ty) (hlk : meth.locks = false) (hn : narrow ty (.int v) = .int v) (hf : some (v, u) = some (r, u')) (hP : va_P D vwCl (wf u) H) (hD : va_D A (wf u)) (hS : va_S A s.heap H locs) (hdg : decode cc pc = .ok (.ireturn, 1)) : G p l e fr lo s m args below meth c D A (wf u') (some (.int r)) H locs (F0 m pc ls [.int v]) := by
  cases hf
  exact retZ hx hb hr hlk hn rfl hP hD hS hdg
theorem retLw {S : Type} {wf : S → va_W} {v r : Int64} {u u' : S} (hx : p.tables.exec = Jvm.exec) (hb : c.code = cc) (hr : meth.sig.returnType = some .long) (hlk : meth.locks = false) (hf : some (v, u) = some (r, u')) (hP : va_P D vwCl (wf u) H) (hD : va_D A (wf u)) (hS : va_S A s.heap H locs) (hdg : decode cc pc = .ok (.lreturn, 1)) : G p l e fr lo s m args below meth c D A (wf u') (some (.long r)) H locs (F0 m pc ls [.long v]) := by
  cases hf
  exact retL hx hb hr hlk rfl hP hD hS hdg
theorem retVw {S : Type} {wf : S → va_W} {u u' : S} (hx : p.tables.exec = Jvm.exec) (hb : c.code = cc) (hr : meth.sig.returnType = none) (hlk : meth.locks = false) (hf : some u = some u') (hP : va_P D vwCl (wf u) H) (hD : va_D A (wf u)) (hS : va_S A s.heap H locs) (hdg : decode cc pc = .ok (.return_, 1)) : G p l e fr lo s m args below meth c D A (wf u') none H locs (F0 m pc ls []) := by
  cases hf
  exact W.vret hx hb hr (fun t ht hW => ⟨⟨rfl, by rw [ht]; exact hP, hD⟩, hS.F ht⟩) hS.2.2 hdg hlk
/-- behind a call by contract -/
theorem cRun {ws ws' : va_W} {a : Array Value} {rv : Option Value} {st0 st1 : List Value} (hr : va_Run p l e R s m args below meth c H locs cells slots 0 0 (F0 m pc ls st0) rest (Qg D ws' rv (va_A ws H.size) a) (va_A ws H.size)) (hS : va_S A s.heap H locs) (hF : ∀ q, va_A ws H.size q → A q) (hst1 : rv.toList ++ rest = st1)
    (kk : ∀ (H1 : Heap) (locs1 : List Loc), va_P D vwCl ws' H1 → va_D A ws' → va_S A s.heap H1 locs1 → W p l e R s m args below meth c H1 locs1 cells slots Q (F0 m (pc + 3) ls st1)) : W p l e R s m args below meth c H locs cells slots Q (F0 m pc ls st0) := by
  subst hst1
  intro T hT X
  obtain ⟨v, st₀, t, T', L, h0, X', hL, e1, e2, ⟨⟨hv, hP1, hD1⟩, hz, hk⟩, st⟩ := hr T hT X
  cases hv
  rw [h0] at hz hk
  obtain ⟨t2, a1, b1⟩ := kk T'.heap (locs ++ L) (by rw [e1]; exact hP1) (hD1.weaken (fun _ q _ h => hF q.1 h))
    ⟨Nat.le_trans hS.1 (by rw [e1]; exact hz), fun q h1 h2 => by rw [e1, hk q (Nat.lt_of_lt_of_le h1 hS.1) (fun z => h2 (hF q z))]; exact hS.2.1 q h1 h2, fun q hq => by
      rcases List.mem_append.mp hq with h | h
      · exact hS.2.2 q h
      · exact hF _ (hL q h)⟩ T' rfl X'
  exact ⟨t2, st t2 a1, b1⟩
theorem freeAll {ws : va_W} (hD : va_D A ws) (hS : va_S A s.heap H locs) (hA : ∀ q : Nat, s.heap.size ≤ q → A q) : ∀ q, va_A ws H.size q → A q := by
  intro q h
  rcases h with ⟨k, e, h⟩ | h
  · exact hD.2 k (q, e) h
  · exact hA q (Nat.le_trans hS.1 h)
theorem preAll {ws : va_W} {As : List Value} {B : Nat → Prop} (hK : va_K D vwCl tys s) (hP : va_P D vwCl ws H) (hD : va_D B ws) (hS : va_S A s.heap H locs) (hF : ∀ q, va_A ws H.size q → A q) (hN : NW s) (hW : SW A s s.heap) : ∀ U : State, U.heap = H → s.WarmedH U.vm → va_Pc As (Pg D tys ws H.size) As.toArray U :=
  fun U hU hW' => ⟨rfl, by rw [hU], by rw [hU]; exact hP, va_K.moved hW'.alike hK, hD.weaken (fun _ _ _ _ => trivial), hN.warm hW', hW.step hS hF hU hW'⟩
variable {y0 y : MethodName} {nL nL' idx n : Nat} {ret0 ret' : Option FieldType} {own : String} {cc' : ByteArray} {ws ws' : va_W} {As : List Value} {rv : Option Value} {b : Nat} {st0 st1 : List Value}
/-- a call of an instance method, the receiver's cell given -/
theorem cVr (CF : CallFix p m c cc nL s args (wA y0 cc nL ret0) own) (hC : Ct l D tys y cc' nL' ret' fr lo ws ws' (.ref b :: As) rv) (hK : va_K D vwCl tys s) (hP : va_P D vwCl ws H) (hD : va_D A ws) (hS : va_S A s.heap H locs) (hA : ∀ q : Nat, s.heap.size ≤ q → A q) (hN : NW s) (hW : SW A s s.heap)
    (hl : Cond.methodLink own idx y ∈ wsA) (hg : gV y cc' nL' ret') (hy : gD y n) (hrec : ∃ cellB : Cell, H[b]? = some cellB ∧ cellB.vm.isStatics = false ∧ s.vm.findClass y.cls = some cellB.cls) (hn : As.length = n) (hst : st0 = As.reverse ++ .ref b :: rest) (hR : fr + 1 ≤ R.frames ∧ 8 + (nL' + 11) + lo ≤ R.locals) (hsz : ls.size = nL) (hrs : (rest.map fun v => v.category).sum ≤ 8) (hcs : cells ≤ R.cells ∧ slots ≤ R.slots) (hst1 : rv.toList ++ rest = st1) (hdg : decode cc pc = .ok (.invokevirtual idx, 3))
    (kk : ∀ (H1 : Heap) (locs1 : List Loc), va_P D vwCl ws' H1 → va_D A ws' → va_S A s.heap H1 locs1 → W p l e R s m args below meth c H1 locs1 cells slots Q (F0 m (pc + 3) ls st1)) : W p l e R s m args below meth c H locs cells slots Q (F0 m pc ls st0) := by
  have hF := freeAll hD hS hA
  exact cRun (ws := ws) (ws' := ws') (rv := rv) (va_runV (g := F0 m pc ls st0) (As := As) (rest := rest) CF (hC H.size) (cwV n CF.2.2.2.2 (gAV hl hg) rfl rfl rfl ⟨rfl, hy⟩ hR) ⟨Pg.blind, hrec, preAll hK hP hD hS hF hN hW⟩ rfl hn hsz hst (lv_room hrs) hdg hcs) hS hF hst1 kk
theorem cV {ci q0 : Nat} {fs : List Value} {T : u_T} {Nf : Nat} (CF : CallFix p m c cc nL s args (wA y0 cc nL ret0) own) (hC : Ct l D tys y cc' nL' ret' fr lo ws ws' (.ref b :: As) rv) (hK : va_K D vwCl tys s) (hP : va_P D vwCl ws H) (hD : va_D A ws) (hS : va_S A s.heap H locs) (hA : ∀ q : Nat, s.heap.size ≤ q → A q) (hN : NW s) (hW : SW A s s.heap)
    (hl : Cond.methodLink own idx y ∈ wsA) (hg : gV y cc' nL' ret') (hy : gD y n) (he : ws[q0]? = some (b, .inr (ci, fs))) (hc : vwCl[ci]? = some (y.cls, T, Nf)) (hn : As.length = n) (hst : st0 = As.reverse ++ .ref b :: rest) (hR : fr + 1 ≤ R.frames ∧ 8 + (nL' + 11) + lo ≤ R.locals) (hsz : ls.size = nL) (hrs : (rest.map fun v => v.category).sum ≤ 8) (hcs : cells ≤ R.cells ∧ slots ≤ R.slots) (hst1 : rv.toList ++ rest = st1) (hdg : decode cc pc = .ok (.invokevirtual idx, 3))
    (kk : ∀ (H1 : Heap) (locs1 : List Loc), va_P D vwCl ws' H1 → va_D A ws' → va_S A s.heap H1 locs1 → W p l e R s m args below meth c H1 locs1 cells slots Q (F0 m (pc + 3) ls st1)) : W p l e R s m args below meth c H locs cells slots Q (F0 m pc ls st0) :=
  cVr CF hC hK hP hD hS hA hN hW hl hg hy (va_recv hK hP hc he) hn hst hR hsz hrs hcs hst1 hdg kk
theorem cSt (CF : CallFix p m c cc nL s args (wA y0 cc nL ret0) own) (hC : Ct l D tys y cc' nL' ret' fr lo ws ws' As rv) (hK : va_K D vwCl tys s) (hP : va_P D vwCl ws H) (hD : va_D A ws) (hS : va_S A s.heap H locs) (hA : ∀ q : Nat, s.heap.size ≤ q → A q) (hN : NW s) (hW : SW A s s.heap)
    (hl : Cond.methodLink own idx y ∈ wsA) (hg : gS y cc' nL' ret') (hy : gD y n) (hn : As.length = n) (hst : st0 = As.reverse ++ rest) (hR : fr + 1 ≤ R.frames ∧ 8 + (nL' + 11) + lo ≤ R.locals) (hsz : ls.size = nL) (hrs : (rest.map fun v => v.category).sum ≤ 8) (hcs : cells ≤ R.cells ∧ slots ≤ R.slots) (hst1 : rv.toList ++ rest = st1) (hdg : decode cc pc = .ok (.invokestatic idx, 3))
    (kk : ∀ (H1 : Heap) (locs1 : List Loc), va_P D vwCl ws' H1 → va_D A ws' → va_S A s.heap H1 locs1 → W p l e R s m args below meth c H1 locs1 cells slots Q (F0 m (pc + 3) ls st1)) : W p l e R s m args below meth c H locs cells slots Q (F0 m pc ls st0) := by
  have hF := freeAll hD hS hA
  exact cRun (ws := ws) (ws' := ws') (rv := rv) (va_runS (g := F0 m pc ls st0) (As := As) (rest := rest) CF (hC H.size) (va_cwS n CF.2.2.2.2 (gAS hl hg) rfl rfl rfl hy hR) ⟨Pg.blind, preAll hK hP hD hS hF hN hW⟩ rfl hn hsz hst (lv_room hrs) hdg hcs) hS hF hst1 kk
/-- a static method of a nest mate -/
theorem cSN {host : String} (CF : CallFix p m c cc nL s args (wA y0 cc nL ret0) own) (hC : Ct l D tys y cc' nL' ret' fr lo ws ws' As rv) (hK : va_K D vwCl tys s) (hP : va_P D vwCl ws H) (hD : va_D A ws) (hS : va_S A s.heap H locs) (hA : ∀ q : Nat, s.heap.size ≤ q → A q) (hN : NW s) (hW : SW A s s.heap)
    (hl : (own, idx, y, host) ∈ nwM) (hg : gS y cc' nL' ret') (hy : gD y n) (hn : As.length = n) (hst : st0 = As.reverse ++ rest) (hR : fr + 1 ≤ R.frames ∧ 8 + (nL' + 11) + lo ≤ R.locals) (hsz : ls.size = nL) (hrs : (rest.map fun v => v.category).sum ≤ 8) (hcs : cells ≤ R.cells ∧ slots ≤ R.slots) (hst1 : rv.toList ++ rest = st1) (hdg : decode cc pc = .ok (.invokestatic idx, 3))
    (kk : ∀ (H1 : Heap) (locs1 : List Loc), va_P D vwCl ws' H1 → va_D A ws' → va_S A s.heap H1 locs1 → W p l e R s m args below meth c H1 locs1 cells slots Q (F0 m (pc + 3) ls st1)) : W p l e R s m args below meth c H locs cells slots Q (F0 m pc ls st0) := by
  have hF := freeAll hD hS hA
  have ht := CF.2.2.2.2
  exact cRun (ws := ws) (ws' := ws') (rv := rv) (va_runSN (g := F0 m pc ls st0) (As := As) (rest := rest) CF (hC H.size) ⟨va_cnB n ht (gA hg.2.2) rfl rfl rfl (hN.2 _ hl) (ht _ (List.mem_cons_of_mem _ hg.2.1)) hy hR, ht _ (List.mem_cons_of_mem _ hg.1), trivial⟩ ⟨Pg.blind, preAll hK hP hD hS hF hN hW⟩ rfl hn hsz hst (lv_room hrs) hdg hcs) hS hF hst1 kk
end RET
/-! ===== options: steps of the pure functions ===== -/
abbrev inB (i : Int32) (n : Nat) : Prop := ¬ (i < 0 ∨ n ≤ i.toNatClampNeg)
def bo {α β : Type} (x : Option α) (k : α → Option β) : Option β := match x with
  | none => none
  | some a => k a
def bd {α β γ : Type} (x : Option (α × β)) (k : α → β → Option γ) : Option γ := match x with
  | none => none
  | some (a, b) => k a b
theorem zz_t {α : Type} {c : Prop} [Decidable c] {a b : Option α} {r : α} (h : c) (hf : (if c then a else b) = some r) : a = some r := by rw [if_pos h] at hf; exact hf
theorem zz_f {α : Type} {c : Prop} [Decidable c] {a b : Option α} {r : α} (h : ¬ c) (hf : (if c then a else b) = some r) : b = some r := by rw [if_neg h] at hf; exact hf
theorem zz_nt {α : Type} {c : Prop} [Decidable c] {a b : Option α} {r : α} (h : c) (hf : (if ¬ c then a else b) = some r) : b = some r := by rw [if_neg (fun q => q h)] at hf; exact hf
theorem zz_k {α : Type} {c : Prop} [Decidable c] {a : Option α} {r : α} (hf : (if c then a else none) = some r) : c ∧ a = some r := by
  by_cases h : c
  · exact ⟨h, zz_t h hf⟩
  · rw [if_neg h] at hf; cases hf
theorem zz_o {α β : Type} {x : Option α} {k : α → Option β} {r : β} (hf : bo x k = some r) : ∃ a, x = some a ∧ k a = some r := by
  cases x with
  | none => cases hf
  | some a => exact ⟨a, rfl, hf⟩
theorem zz_b {α β γ : Type} {x : Option (α × β)} {k : α → β → Option γ} {r : γ} (hf : bd x k = some r) : ∃ a b, x = some (a, b) ∧ k a b = some r := by
  cases x with
  | none => cases hf
  | some q => obtain ⟨a, b⟩ := q; exact ⟨a, b, rfl, hf⟩
end
