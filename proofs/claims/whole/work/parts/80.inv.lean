/-! ===== the calls keep it ===== -/
theorem lawOK : LawOK 100 Inv0 := ⟨op_letter, op_blank, op_fault, op_hill, op_person, op_as, op_next, op_tell, op_day, op_deny, op_tunnel, op_aim, op_heard, op_forget, op_began, op_ask, op_markets, op_image, op_restore, op_count, op_digest, inv_mono⟩
