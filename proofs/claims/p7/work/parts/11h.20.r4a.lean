theorem fz_R_fail {x1 : Int32} {x2 : Int32} {h0_fault : Int32} {h0_place : Int32} {o_u_h0_fault : Int32} {o_u_h0_place : Int32} (h : S_R_fail x1 x2 h0_fault h0_place o_u_h0_fault o_u_h0_place)  : ¬ h0_fault.toInt = 0 → o_u_h0_fault.toInt = h0_fault.toInt ∧ o_u_h0_place.toInt = h0_place.toInt := by
  rcases h with ⟨p0, e0, e1⟩ | ⟨p0, e0, e1⟩ | h
  · omega
  · omega
  · exact h.elim
theorem fz_R_readWord_79_3 {h0_fault : Int32} {h0_place : Int32} {h0_tokenEnd : Int32} {v114 : Int32} {v4 : Int32} {v205 : Int32} {v206 : Int32} (h : J_R_readWord_79_3 h0_fault h0_place h0_tokenEnd v114 v4 v205 v206)  : ¬ h0_fault.toInt = 0 → v205.toInt = h0_fault.toInt ∧ v206.toInt = h0_place.toInt := by
  rcases h with ⟨v218, v219, p0, p1, p2, p3, e0, e1⟩ | ⟨p0, p1, e0, e1⟩ | h
  · have i1_ : (1 : Int32).toInt = 1 := by decide
    have k3 := fz_R_fail p3
    omega
  · omega
  · exact h.elim
theorem fz_R_readWord {h0_at : Int32} {h0_tokenEnd : Int32} {h0_fault : Int32} {h0_place : Int32} {h0_tape_length : Int32} {f_h0_tape_bytes : (Nat → Int32)} {o_u_h0_at : Int32} {o_u_h0_tokenStart : Int32} {o_u_h0_tokenEnd : Int32} {o_u_h0_fault : Int32} {o_u_h0_place : Int32} (h : S_R_readWord h0_at h0_tokenEnd h0_fault h0_place h0_tape_length f_h0_tape_bytes o_u_h0_at o_u_h0_tokenStart o_u_h0_tokenEnd o_u_h0_fault o_u_h0_place)  : ¬ h0_fault.toInt = 0 → o_u_h0_fault.toInt = h0_fault.toInt ∧ o_u_h0_place.toInt = h0_place.toInt := by
  rcases h with ⟨v3, v4, v114, v205, v206, p0, p1, p2, p3, p4, p5, p6, p7, e0, e1, e2, e3, e4⟩ | h
  · have k6 := fz_R_readWord_79_3 p6
    omega
  · exact h.elim
theorem fz_R_keyword_0 {h0_at : Int32} {h0_tokenEnd : Int32} {h0_fault : Int32} {h0_place : Int32} {h0_tape_length : Int32} {f_h0_tape_bytes : (Nat → Int32)} {o_u_h0_at : Int32} {o_u_h0_tokenStart : Int32} {o_u_h0_tokenEnd : Int32} {o_u_h0_fault : Int32} {o_u_h0_place : Int32} (h : S_R_keyword_0 h0_at h0_tokenEnd h0_fault h0_place h0_tape_length f_h0_tape_bytes o_u_h0_at o_u_h0_tokenStart o_u_h0_tokenEnd o_u_h0_fault o_u_h0_place)  : ¬ h0_fault.toInt = 0 → o_u_h0_fault.toInt = h0_fault.toInt ∧ o_u_h0_place.toInt = h0_place.toInt := by
  rcases h with ⟨v3, v4, v5, v6, v7, r14, p0, p1, p2, p3, p4, p5, p6, p7, p8, e0, e1, e2, e3, e4⟩ | ⟨v3, v4, v5, v6, v7, r14, v20, v21, p0, p1, p2, p3, p4, p5, p6, p7, p8, p9, p10, p11, e0, e1, e2, e3, e4⟩ | h
  · have k5 := fz_R_readWord p5
    omega
  · have k5 := fz_R_readWord p5
    have i1_ : (1 : Int32).toInt = 1 := by decide
    have k11 := fz_R_fail p11
    omega
  · exact h.elim
theorem fz_R_keyword_1 {h0_at : Int32} {h0_tokenEnd : Int32} {h0_fault : Int32} {h0_place : Int32} {h0_tape_length : Int32} {f_h0_tape_bytes : (Nat → Int32)} {o_u_h0_at : Int32} {o_u_h0_tokenStart : Int32} {o_u_h0_tokenEnd : Int32} {o_u_h0_fault : Int32} {o_u_h0_place : Int32} (h : S_R_keyword_1 h0_at h0_tokenEnd h0_fault h0_place h0_tape_length f_h0_tape_bytes o_u_h0_at o_u_h0_tokenStart o_u_h0_tokenEnd o_u_h0_fault o_u_h0_place)  : ¬ h0_fault.toInt = 0 → o_u_h0_fault.toInt = h0_fault.toInt ∧ o_u_h0_place.toInt = h0_place.toInt := by
  rcases h with ⟨v3, v4, v5, v6, v7, r14, p0, p1, p2, p3, p4, p5, p6, p7, p8, e0, e1, e2, e3, e4⟩ | ⟨v3, v4, v5, v6, v7, r14, v20, v21, p0, p1, p2, p3, p4, p5, p6, p7, p8, p9, p10, p11, e0, e1, e2, e3, e4⟩ | h
  · have k5 := fz_R_readWord p5
    omega
  · have k5 := fz_R_readWord p5
    have i1_ : (1 : Int32).toInt = 1 := by decide
    have k11 := fz_R_fail p11
    omega
  · exact h.elim
theorem fz_R_keyword_2 {h0_at : Int32} {h0_tokenEnd : Int32} {h0_fault : Int32} {h0_place : Int32} {h0_tape_length : Int32} {f_h0_tape_bytes : (Nat → Int32)} {o_u_h0_at : Int32} {o_u_h0_tokenStart : Int32} {o_u_h0_tokenEnd : Int32} {o_u_h0_fault : Int32} {o_u_h0_place : Int32} (h : S_R_keyword_2 h0_at h0_tokenEnd h0_fault h0_place h0_tape_length f_h0_tape_bytes o_u_h0_at o_u_h0_tokenStart o_u_h0_tokenEnd o_u_h0_fault o_u_h0_place)  : ¬ h0_fault.toInt = 0 → o_u_h0_fault.toInt = h0_fault.toInt ∧ o_u_h0_place.toInt = h0_place.toInt := by
  rcases h with ⟨v3, v4, v5, v6, v7, r14, p0, p1, p2, p3, p4, p5, p6, p7, p8, e0, e1, e2, e3, e4⟩ | ⟨v3, v4, v5, v6, v7, r14, v20, v21, p0, p1, p2, p3, p4, p5, p6, p7, p8, p9, p10, p11, e0, e1, e2, e3, e4⟩ | h
  · have k5 := fz_R_readWord p5
    omega
  · have k5 := fz_R_readWord p5
    have i1_ : (1 : Int32).toInt = 1 := by decide
    have k11 := fz_R_fail p11
    omega
  · exact h.elim
theorem fz_R_keyword_8 {h0_at : Int32} {h0_tokenEnd : Int32} {h0_fault : Int32} {h0_place : Int32} {h0_tape_length : Int32} {f_h0_tape_bytes : (Nat → Int32)} {o_u_h0_at : Int32} {o_u_h0_tokenStart : Int32} {o_u_h0_tokenEnd : Int32} {o_u_h0_fault : Int32} {o_u_h0_place : Int32} (h : S_R_keyword_8 h0_at h0_tokenEnd h0_fault h0_place h0_tape_length f_h0_tape_bytes o_u_h0_at o_u_h0_tokenStart o_u_h0_tokenEnd o_u_h0_fault o_u_h0_place)  : ¬ h0_fault.toInt = 0 → o_u_h0_fault.toInt = h0_fault.toInt ∧ o_u_h0_place.toInt = h0_place.toInt := by
  rcases h with ⟨v3, v4, v5, v6, v7, r14, p0, p1, p2, p3, p4, p5, p6, p7, p8, e0, e1, e2, e3, e4⟩ | ⟨v3, v4, v5, v6, v7, r14, v20, v21, p0, p1, p2, p3, p4, p5, p6, p7, p8, p9, p10, p11, e0, e1, e2, e3, e4⟩ | h
  · have k5 := fz_R_readWord p5
    omega
  · have k5 := fz_R_readWord p5
    have i1_ : (1 : Int32).toInt = 1 := by decide
    have k11 := fz_R_fail p11
    omega
  · exact h.elim
theorem fz_R_keyword_13 {h0_at : Int32} {h0_tokenEnd : Int32} {h0_fault : Int32} {h0_place : Int32} {h0_tape_length : Int32} {f_h0_tape_bytes : (Nat → Int32)} {o_u_h0_at : Int32} {o_u_h0_tokenStart : Int32} {o_u_h0_tokenEnd : Int32} {o_u_h0_fault : Int32} {o_u_h0_place : Int32} (h : S_R_keyword_13 h0_at h0_tokenEnd h0_fault h0_place h0_tape_length f_h0_tape_bytes o_u_h0_at o_u_h0_tokenStart o_u_h0_tokenEnd o_u_h0_fault o_u_h0_place)  : ¬ h0_fault.toInt = 0 → o_u_h0_fault.toInt = h0_fault.toInt ∧ o_u_h0_place.toInt = h0_place.toInt := by
  rcases h with ⟨v3, v4, v5, v6, v7, r14, p0, p1, p2, p3, p4, p5, p6, p7, p8, e0, e1, e2, e3, e4⟩ | ⟨v3, v4, v5, v6, v7, r14, v20, v21, p0, p1, p2, p3, p4, p5, p6, p7, p8, p9, p10, p11, e0, e1, e2, e3, e4⟩ | h
  · have k5 := fz_R_readWord p5
    omega
  · have k5 := fz_R_readWord p5
    have i1_ : (1 : Int32).toInt = 1 := by decide
    have k11 := fz_R_fail p11
    omega
  · exact h.elim
theorem fz_R_keyword_14 {h0_at : Int32} {h0_tokenEnd : Int32} {h0_fault : Int32} {h0_place : Int32} {h0_tape_length : Int32} {f_h0_tape_bytes : (Nat → Int32)} {o_u_h0_at : Int32} {o_u_h0_tokenStart : Int32} {o_u_h0_tokenEnd : Int32} {o_u_h0_fault : Int32} {o_u_h0_place : Int32} (h : S_R_keyword_14 h0_at h0_tokenEnd h0_fault h0_place h0_tape_length f_h0_tape_bytes o_u_h0_at o_u_h0_tokenStart o_u_h0_tokenEnd o_u_h0_fault o_u_h0_place)  : ¬ h0_fault.toInt = 0 → o_u_h0_fault.toInt = h0_fault.toInt ∧ o_u_h0_place.toInt = h0_place.toInt := by
  rcases h with ⟨v3, v4, v5, v6, v7, r14, p0, p1, p2, p3, p4, p5, p6, p7, p8, e0, e1, e2, e3, e4⟩ | ⟨v3, v4, v5, v6, v7, r14, v20, v21, p0, p1, p2, p3, p4, p5, p6, p7, p8, p9, p10, p11, e0, e1, e2, e3, e4⟩ | h
  · have k5 := fz_R_readWord p5
    omega
  · have k5 := fz_R_readWord p5
    have i1_ : (1 : Int32).toInt = 1 := by decide
    have k11 := fz_R_fail p11
    omega
  · exact h.elim
theorem fz_R_keyword_15 {h0_at : Int32} {h0_tokenEnd : Int32} {h0_fault : Int32} {h0_place : Int32} {h0_tape_length : Int32} {f_h0_tape_bytes : (Nat → Int32)} {o_u_h0_at : Int32} {o_u_h0_tokenStart : Int32} {o_u_h0_tokenEnd : Int32} {o_u_h0_fault : Int32} {o_u_h0_place : Int32} (h : S_R_keyword_15 h0_at h0_tokenEnd h0_fault h0_place h0_tape_length f_h0_tape_bytes o_u_h0_at o_u_h0_tokenStart o_u_h0_tokenEnd o_u_h0_fault o_u_h0_place)  : ¬ h0_fault.toInt = 0 → o_u_h0_fault.toInt = h0_fault.toInt ∧ o_u_h0_place.toInt = h0_place.toInt := by
  rcases h with ⟨v3, v4, v5, v6, v7, r14, p0, p1, p2, p3, p4, p5, p6, p7, p8, e0, e1, e2, e3, e4⟩ | ⟨v3, v4, v5, v6, v7, r14, v20, v21, p0, p1, p2, p3, p4, p5, p6, p7, p8, p9, p10, p11, e0, e1, e2, e3, e4⟩ | h
  · have k5 := fz_R_readWord p5
    omega
  · have k5 := fz_R_readWord p5
    have i1_ : (1 : Int32).toInt = 1 := by decide
    have k11 := fz_R_fail p11
    omega
  · exact h.elim
theorem fz_R_keyword_18 {h0_at : Int32} {h0_tokenEnd : Int32} {h0_fault : Int32} {h0_place : Int32} {h0_tape_length : Int32} {f_h0_tape_bytes : (Nat → Int32)} {o_u_h0_at : Int32} {o_u_h0_tokenStart : Int32} {o_u_h0_tokenEnd : Int32} {o_u_h0_fault : Int32} {o_u_h0_place : Int32} (h : S_R_keyword_18 h0_at h0_tokenEnd h0_fault h0_place h0_tape_length f_h0_tape_bytes o_u_h0_at o_u_h0_tokenStart o_u_h0_tokenEnd o_u_h0_fault o_u_h0_place)  : ¬ h0_fault.toInt = 0 → o_u_h0_fault.toInt = h0_fault.toInt ∧ o_u_h0_place.toInt = h0_place.toInt := by
  rcases h with ⟨v3, v4, v5, v6, v7, r14, p0, p1, p2, p3, p4, p5, p6, p7, p8, e0, e1, e2, e3, e4⟩ | ⟨v3, v4, v5, v6, v7, r14, v20, v21, p0, p1, p2, p3, p4, p5, p6, p7, p8, p9, p10, p11, e0, e1, e2, e3, e4⟩ | h
  · have k5 := fz_R_readWord p5
    omega
  · have k5 := fz_R_readWord p5
    have i1_ : (1 : Int32).toInt = 1 := by decide
    have k11 := fz_R_fail p11
    omega
  · exact h.elim
theorem fz_R_number_103_3 {h0_fault : Int32} {h0_place : Int32} {h0_tokenEnd : Int32} {v4 : Int32} {v957 : Int32} {v958 : Int32} (h : J_R_number_103_3 h0_fault h0_place h0_tokenEnd v4 v957 v958)  : ¬ h0_fault.toInt = 0 → v957.toInt = h0_fault.toInt ∧ v958.toInt = h0_place.toInt := by
  rcases h with ⟨p0, e0, e1⟩ | ⟨v1057, v1058, p0, p1, p2, p3, e0, e1⟩ | h
  · omega
  · have i1_ : (1 : Int32).toInt = 1 := by decide
    have k3 := fz_R_fail p3
    omega
  · exact h.elim
theorem fz_R_number_140_4 {f_h0_tape_bytes : (Nat → Int32)} {h0_tape_length : Int32} {v4 : Int32} {v765 : Int32} {v957 : Int32} {v958 : Int32} {v985 : Int32} {v986 : Int32} (h : J_R_number_140_4 f_h0_tape_bytes h0_tape_length v4 v765 v957 v958 v985 v986)  : ¬ v957.toInt = 0 → v985.toInt = v957.toInt ∧ v986.toInt = v958.toInt := by
  rcases h with ⟨v1041, v1042, p0, p1, p2, p3, e0, e1⟩ | ⟨r1047, r1050, p0, p1, p2, p3, p4, p5, e0, e1⟩ | h
  · have i1_ : (1 : Int32).toInt = 1 := by decide
    have k3 := fz_R_fail p3
    omega
  · omega
  · exact h.elim
theorem fz_R_number_159_5 {v4 : Int32} {v764 : Int32} {v985 : Int32} {v986 : Int32} {x1 : Int32} {x2 : Int32} {v1007 : Int32} {v1008 : Int32} (h : J_R_number_159_5 v4 v764 v985 v986 x1 x2 v1007 v1008)  : ¬ v985.toInt = 0 → v1007.toInt = v985.toInt ∧ v1008.toInt = v986.toInt := by
  rcases h with ⟨v1021, v1022, p0, p1, p2, p3, e0, e1⟩ | ⟨p0, p1, e0, e1⟩ | h
  · have i2_ : (2 : Int32).toInt = 2 := by decide
    have k3 := fz_R_fail p3
    omega
  · omega
  · exact h.elim
theorem fz_R_number {x1 : Int32} {x2 : Int32} {h0_at : Int32} {h0_tokenEnd : Int32} {h0_fault : Int32} {h0_place : Int32} {h0_tape_length : Int32} {f_h0_tape_bytes : (Nat → Int32)} {o_u_h0_at : Int32} {o_u_h0_tokenStart : Int32} {o_u_h0_tokenEnd : Int32} {o_u_h0_fault : Int32} {o_u_h0_place : Int32} {o_r : Int32} (h : S_R_number x1 x2 h0_at h0_tokenEnd h0_fault h0_place h0_tape_length f_h0_tape_bytes o_u_h0_at o_u_h0_tokenStart o_u_h0_tokenEnd o_u_h0_fault o_u_h0_place o_r)  : ¬ h0_fault.toInt = 0 → o_u_h0_fault.toInt = h0_fault.toInt ∧ o_u_h0_place.toInt = h0_place.toInt := by
  rcases h with ⟨v3, v4, v764, v765, v957, v958, v985, v986, v1007, v1008, p0, p1, p2, p3, p4, p5, p6, p7, p8, p9, p10, p11, p12, e0, e1, e2, e3, e4, e5⟩ | h
  · have k6 := fz_R_number_103_3 p6
    have k8 := fz_R_number_140_4 p8
    have k10 := fz_R_number_159_5 p10
    omega
  · exact h.elim
theorem fz_R_semicolon_29_1 {h0_fault : Int32} {h0_place : Int32} {r8 : Int32} {v3 : Int32} {v19 : Int32} {v20 : Int32} (h : J_R_semicolon_29_1 h0_fault h0_place r8 v3 v19 v20)  : ¬ h0_fault.toInt = 0 → v19.toInt = h0_fault.toInt ∧ v20.toInt = h0_place.toInt := by
  rcases h with ⟨p0, e0, e1⟩ | ⟨v34, v35, p0, p1, p2, p3, e0, e1⟩ | h
  · omega
  · have i1_ : (1 : Int32).toInt = 1 := by decide
    have k3 := fz_R_fail p3
    omega
  · exact h.elim
theorem fz_R_semicolon {h0_at : Int32} {h0_fault : Int32} {h0_place : Int32} {h0_tape_length : Int32} {f_h0_tape_bytes : (Nat → Int32)} {h0_into_statements : Int32} {o_u_h0_at : Int32} {o_u_h0_tokenStart : Int32} {o_u_h0_fault : Int32} {o_u_h0_place : Int32} {o_u_h0_into_statements : Int32} (h : S_R_semicolon h0_at h0_fault h0_place h0_tape_length f_h0_tape_bytes h0_into_statements o_u_h0_at o_u_h0_tokenStart o_u_h0_fault o_u_h0_place o_u_h0_into_statements)  : ¬ h0_fault.toInt = 0 → o_u_h0_fault.toInt = h0_fault.toInt ∧ o_u_h0_place.toInt = h0_place.toInt := by
  rcases h with ⟨v3, v4, r8, v19, v20, z25, p0, p1, p2, p3, p4, p5, p6, p7, p8, e0, e1, e2, e3, e4⟩ | ⟨v3, v4, r8, v19, v20, z25, z29, p0, p1, p2, p3, p4, p5, p6, p7, p8, p9, e0, e1, e2, e3, e4⟩ | h
  · have k5 := fz_R_semicolon_29_1 p5
    omega
  · have k5 := fz_R_semicolon_29_1 p5
    omega
  · exact h.elim
theorem fz_R_name_16_1 {h0_fault : Int32} {h0_place : Int32} {h0_tokenStart : Int32} {r1 : Int32} {v12 : Int32} {v13 : Int32} (h : J_R_name_16_1 h0_fault h0_place h0_tokenStart r1 v12 v13)  : ¬ h0_fault.toInt = 0 → v12.toInt = h0_fault.toInt ∧ v13.toInt = h0_place.toInt := by
  rcases h with ⟨p0, e0, e1⟩ | ⟨v348, v349, p0, p1, p2, p3, e0, e1⟩ | h
  · omega
  · have i1_ : (1 : Int32).toInt = 1 := by decide
    have k3 := fz_R_fail p3
    omega
  · exact h.elim
theorem fz_R_name_40_2 {h0_at : Int32} {h0_tokenStart : Int32} {v12 : Int32} {v13 : Int32} {z18 : Int32} {v32 : Int32} {v33 : Int32} (h : J_R_name_40_2 h0_at h0_tokenStart v12 v13 z18 v32 v33)  : ¬ v12.toInt = 0 → v32.toInt = v12.toInt ∧ v33.toInt = v13.toInt := by
  rcases h with ⟨p0, e0, e1⟩ | ⟨z335, v340, v341, p0, p1, p2, p3, p4, e0, e1⟩ | h
  · omega
  · have i1_ : (1 : Int32).toInt = 1 := by decide
    have k4 := fz_R_fail p4
    omega
  · exact h.elim
theorem fz_R_name {h0_at : Int32} {h0_tokenStart : Int32} {h0_fault : Int32} {h0_place : Int32} {h0_tape_length : Int32} {f_h0_tape_bytes : (Nat → Int32)} {o_u_h0_fault : Int32} {o_u_h0_place : Int32} {o_r : Int32} (h : S_R_name h0_at h0_tokenStart h0_fault h0_place h0_tape_length f_h0_tape_bytes o_u_h0_fault o_u_h0_place o_r)  : ¬ h0_fault.toInt = 0 → o_u_h0_fault.toInt = h0_fault.toInt ∧ o_u_h0_place.toInt = h0_place.toInt := by
  rcases h with ⟨r1, v12, v13, z18, v32, v33, v241, v242, p0, p1, p2, p3, p4, p5, p6, p7, p8, p9, p10, e0, e1, e2⟩ | ⟨r1, v12, v13, z18, v32, v33, v241, v242, p0, p1, p2, p3, p4, p5, p6, p7, p8, p9, p10, e0, e1, e2⟩ | h
  · have k2 := fz_R_name_16_1 p2
    have k5 := fz_R_name_40_2 p5
    omega
  · have k2 := fz_R_name_16_1 p2
    have k5 := fz_R_name_40_2 p5
    omega
  · exact h.elim
theorem fz_R_newName {h0_at : Int32} {h0_tokenEnd : Int32} {h0_fault : Int32} {h0_place : Int32} {h0_tape_length : Int32} {f_h0_tape_bytes : (Nat → Int32)} {h0_into_count : Int32} {f_h0_into_name : (Nat → Int32)} {o_u_h0_at : Int32} {o_u_h0_tokenStart : Int32} {o_u_h0_tokenEnd : Int32} {o_u_h0_fault : Int32} {o_u_h0_place : Int32} {o_r : Int32} (h : S_R_newName h0_at h0_tokenEnd h0_fault h0_place h0_tape_length f_h0_tape_bytes h0_into_count f_h0_into_name o_u_h0_at o_u_h0_tokenStart o_u_h0_tokenEnd o_u_h0_fault o_u_h0_place o_r)  : ¬ h0_fault.toInt = 0 → o_u_h0_fault.toInt = h0_fault.toInt ∧ o_u_h0_place.toInt = h0_place.toInt := by
  rcases h with ⟨v3, v4, v5, v6, v7, v16, v17, r14, r21, p0, p1, p2, p3, p4, p5, p6, p7, p8, p9, p10, p11, p12, e0, e1, e2, e3, e4, e5⟩ | ⟨v3, v4, v5, v6, v7, v16, v17, r14, r21, v28, v29, p0, p1, p2, p3, p4, p5, p6, p7, p8, p9, p10, p11, p12, p13, p14, p15, e0, e1, e2, e3, e4, e5⟩ | h
  · have k5 := fz_R_readWord p5
    have k8 := fz_R_name p8
    omega
  · have k5 := fz_R_readWord p5
    have k8 := fz_R_name p8
    have i3_ : (3 : Int32).toInt = 3 := by decide
    have k15 := fz_R_fail p15
    omega
  · exact h.elim
theorem fz_R_where {h0_at : Int32} {h0_tokenEnd : Int32} {h0_fault : Int32} {h0_place : Int32} {h0_tape_length : Int32} {f_h0_tape_bytes : (Nat → Int32)} {h0_into_count : Int32} {f_h0_into_name : (Nat → Int32)} {o_u_h0_at : Int32} {o_u_h0_tokenStart : Int32} {o_u_h0_tokenEnd : Int32} {o_u_h0_fault : Int32} {o_u_h0_place : Int32} {o_r : Int32} (h : S_R_where h0_at h0_tokenEnd h0_fault h0_place h0_tape_length f_h0_tape_bytes h0_into_count f_h0_into_name o_u_h0_at o_u_h0_tokenStart o_u_h0_tokenEnd o_u_h0_fault o_u_h0_place o_r)  : ¬ h0_fault.toInt = 0 → o_u_h0_fault.toInt = h0_fault.toInt ∧ o_u_h0_place.toInt = h0_place.toInt := by
  rcases h with ⟨v3, v4, v5, v6, v7, r14, v20, v21, r18, r25, p0, p1, p2, p3, p4, p5, p6, p7, p8, p9, p10, p11, p12, p13, p14, p15, e0, e1, e2, e3, e4, e5⟩ | ⟨v3, v4, v5, v6, v7, r14, v20, v21, r18, r25, v32, v33, p0, p1, p2, p3, p4, p5, p6, p7, p8, p9, p10, p11, p12, p13, p14, p15, p16, p17, p18, e0, e1, e2, e3, e4, e5⟩ | ⟨v3, v4, v5, v6, v7, r14, p0, p1, p2, p3, p4, p5, p6, p7, p8, e0, e1, e2, e3, e4, e5⟩ | h
  · have k5 := fz_R_readWord p5
    have k11 := fz_R_name p11
    omega
  · have k5 := fz_R_readWord p5
    have k11 := fz_R_name p11
    have i3_ : (3 : Int32).toInt = 3 := by decide
    have k18 := fz_R_fail p18
    omega
  · have k5 := fz_R_readWord p5
    omega
  · exact h.elim
theorem fz_R_sideOf_66_1 {f_h0_tape_bytes : (Nat → Int32)} {h0_tape_length : Int32} {r14 : Int32} {v3 : Int32} {v4 : Int32} {v6 : Int32} {v7 : Int32} {v37 : Int32} {v38 : Int32} {v39 : Int32} (h : J_R_sideOf_66_1 f_h0_tape_bytes h0_tape_length r14 v3 v4 v6 v7 v37 v38 v39)  : ¬ v6.toInt = 0 → v38.toInt = v6.toInt ∧ v39.toInt = v7.toInt := by
  rcases h with ⟨r57, r61, r65, p0, p1, p2, p3, p4, p5, p6, p7, p8, p9, e0, e1, e2⟩ | ⟨r57, r61, r65, v71, v72, p0, p1, p2, p3, p4, p5, p6, p7, p8, p9, p10, p11, p12, e0, e1, e2⟩ | ⟨r57, r61, p0, p1, p2, p3, p4, p5, p6, e0, e1, e2⟩ | ⟨r57, p0, p1, p2, p3, e0, e1, e2⟩ | ⟨p0, e0, e1, e2⟩ | h
  · omega
  · have i1_ : (1 : Int32).toInt = 1 := by decide
    have k12 := fz_R_fail p12
    omega
  · omega
  · omega
  · omega
  · exact h.elim
theorem fz_R_sideOf {x1 : Int32} {h0_at : Int32} {h0_tokenEnd : Int32} {h0_fault : Int32} {h0_place : Int32} {h0_tape_length : Int32} {f_h0_tape_bytes : (Nat → Int32)} {f_h0_into_side : (Nat → Int32)} {o_u_h0_at : Int32} {o_u_h0_tokenStart : Int32} {o_u_h0_tokenEnd : Int32} {o_u_h0_fault : Int32} {o_u_h0_place : Int32} {o_r : Int32} (h : S_R_sideOf x1 h0_at h0_tokenEnd h0_fault h0_place h0_tape_length f_h0_tape_bytes f_h0_into_side o_u_h0_at o_u_h0_tokenStart o_u_h0_tokenEnd o_u_h0_fault o_u_h0_place o_r)  : ¬ h0_fault.toInt = 0 → o_u_h0_fault.toInt = h0_fault.toInt ∧ o_u_h0_place.toInt = h0_place.toInt := by
  rcases h with ⟨v3, v4, v5, v6, v7, r14, v37, v38, v39, r45, p0, p1, p2, p3, p4, p5, p6, p7, p8, p9, p10, p11, p12, p13, e0, e1, e2, e3, e4, e5⟩ | ⟨v3, v4, v5, v6, v7, r14, v37, v38, v39, r45, v51, v52, p0, p1, p2, p3, p4, p5, p6, p7, p8, p9, p10, p11, p12, p13, p14, p15, p16, e0, e1, e2, e3, e4, e5⟩ | h
  · have k5 := fz_R_readWord p5
    have k8 := fz_R_sideOf_66_1 p8
    omega
  · have k5 := fz_R_readWord p5
    have k8 := fz_R_sideOf_66_1 p8
    have i4_ : (4 : Int32).toInt = 4 := by decide
    have k16 := fz_R_fail p16
    omega
  · exact h.elim
theorem fz_R_checkWidth {x1 : Int32} {h0_tokenStart : Int32} {h0_fault : Int32} {h0_place : Int32} {f_h0_into_from : (Nat → Int32)} {f_h0_into_width : (Nat → Int32)} {f_h0_into_parent : (Nat → Int32)} {f_h0_into_side : (Nat → Int32)} {f_h0_into_height : (Nat → Int32)} {o_u_h0_fault : Int32} {o_u_h0_place : Int32} (h : S_R_checkWidth x1 h0_tokenStart h0_fault h0_place f_h0_into_from f_h0_into_width f_h0_into_parent f_h0_into_side f_h0_into_height o_u_h0_fault o_u_h0_place)  : ¬ h0_fault.toInt = 0 → o_u_h0_fault.toInt = h0_fault.toInt ∧ o_u_h0_place.toInt = h0_place.toInt := by
  rcases h with ⟨z1, z3, z5, z7, z10, r13, v16, v263, v264, p0, p1, p2, p3, p4, p5, p6, p7, p8, p9, p10, p11, p12, p13, p14, e0, e1⟩ | ⟨z1, z3, z5, z7, z10, r13, v16, v263, v264, v325, v326, p0, p1, p2, p3, p4, p5, p6, p7, p8, p9, p10, p11, p12, p13, p14, p15, p16, p17, e0, e1⟩ | h
  · omega
  · have i4_ : (4 : Int32).toInt = 4 := by decide
    have k17 := fz_R_fail p17
    omega
  · exact h.elim
theorem fz_R_isUp {h0_at : Int32} {h0_tokenEnd : Int32} {h0_fault : Int32} {h0_place : Int32} {h0_tape_length : Int32} {f_h0_tape_bytes : (Nat → Int32)} {o_u_h0_at : Int32} {o_u_h0_tokenStart : Int32} {o_u_h0_tokenEnd : Int32} {o_u_h0_fault : Int32} {o_u_h0_place : Int32} {o_r : Int32} (h : S_R_isUp h0_at h0_tokenEnd h0_fault h0_place h0_tape_length f_h0_tape_bytes o_u_h0_at o_u_h0_tokenStart o_u_h0_tokenEnd o_u_h0_fault o_u_h0_place o_r)  : ¬ h0_fault.toInt = 0 → o_u_h0_fault.toInt = h0_fault.toInt ∧ o_u_h0_place.toInt = h0_place.toInt := by
  rcases h with ⟨v3, v4, v5, v6, v7, r14, p0, p1, p2, p3, p4, p5, p6, p7, p8, e0, e1, e2, e3, e4, e5⟩ | ⟨v3, v4, v5, v6, v7, r14, r18, p0, p1, p2, p3, p4, p5, p6, p7, p8, p9, p10, p11, e0, e1, e2, e3, e4, e5⟩ | ⟨v3, v4, v5, v6, v7, r14, r18, v24, v25, p0, p1, p2, p3, p4, p5, p6, p7, p8, p9, p10, p11, p12, p13, p14, e0, e1, e2, e3, e4, e5⟩ | h
  · have k5 := fz_R_readWord p5
    omega
  · have k5 := fz_R_readWord p5
    omega
  · have k5 := fz_R_readWord p5
    have i1_ : (1 : Int32).toInt = 1 := by decide
    have k14 := fz_R_fail p14
    omega
  · exact h.elim
theorem fz_M_faults {x1 : Int32} {x2 : Int32} {h0_wrong : Int32} {h0_wrongAt : Int32} {o_u_h0_wrong : Int32} {o_u_h0_wrongAt : Int32} (h : S_M_faults x1 x2 h0_wrong h0_wrongAt o_u_h0_wrong o_u_h0_wrongAt)  : ¬ h0_wrong.toInt = 0 → o_u_h0_wrong.toInt = h0_wrong.toInt ∧ o_u_h0_wrongAt.toInt = h0_wrongAt.toInt := by
  rcases h with ⟨p0, e0, e1⟩ | ⟨p0, e0, e1⟩ | h
  · omega
  · omega
  · exact h.elim
theorem fz_M_word {h0_size : Int32} {h0_at : Int32} {h0_from : Int32} {h0_wrong : Int32} {h0_wrongAt : Int32} {f_h0_tape : (Nat → Int32)} {o_u_h0_at : Int32} {o_u_h0_from : Int32} {o_u_h0_wrong : Int32} {o_u_h0_wrongAt : Int32} (h : S_M_word h0_size h0_at h0_from h0_wrong h0_wrongAt f_h0_tape o_u_h0_at o_u_h0_from o_u_h0_wrong o_u_h0_wrongAt)  : ¬ h0_wrong.toInt = 0 → o_u_h0_wrong.toInt = h0_wrong.toInt ∧ o_u_h0_wrongAt.toInt = h0_wrongAt.toInt := by
  rcases h with ⟨r1, v8, r6, r14, v22, v23, p0, p1, p2, p3, p4, p5, p6, p7, p8, p9, p10, p11, p12, p13, p14, p15, e0, e1, e2, e3⟩ | ⟨r1, v8, r6, r14, z27, r30, v39, v40, p0, p1, p2, p3, p4, p5, p6, p7, p8, p9, p10, p11, p12, p13, p14, p15, p16, p17, p18, p19, p20, e0, e1, e2, e3⟩ | ⟨r1, v8, r6, r14, z27, r30, z44, r47, v76, r98, p0, p1, p2, p3, p4, p5, p6, p7, p8, p9, p10, p11, p12, p13, p14, p15, p16, p17, p18, p19, p20, p21, p22, p23, p24, p25, p26, p27, p28, e0, e1, e2, e3⟩ | ⟨r1, v8, r6, r14, z27, r30, z44, r47, v111, v112, p0, p1, p2, p3, p4, p5, p6, p7, p8, p9, p10, p11, p12, p13, p14, p15, p16, p17, p18, p19, p20, p21, p22, p23, p24, p25, e0, e1, e2, e3⟩ | ⟨r1, p0, p1, p2, p3, e0, e1, e2, e3⟩ | h
  · have i1_ : (1 : Int32).toInt = 1 := by decide
    have k15 := fz_M_faults p15
    omega
  · have i1_ : (1 : Int32).toInt = 1 := by decide
    have k20 := fz_M_faults p20
    omega
  · omega
  · have i1_ : (1 : Int32).toInt = 1 := by decide
    have k25 := fz_M_faults p25
    omega
  · omega
  · exact h.elim
theorem fz_M_must {x1 : Int32} {h0_size : Int32} {h0_at : Int32} {h0_from : Int32} {h0_wrong : Int32} {h0_wrongAt : Int32} {f_h0_tape : (Nat → Int32)} {f_h0_ownLetters : (Nat → Int32)} {o_u_h0_at : Int32} {o_u_h0_from : Int32} {o_u_h0_wrong : Int32} {o_u_h0_wrongAt : Int32} (h : S_M_must x1 h0_size h0_at h0_from h0_wrong h0_wrongAt f_h0_tape f_h0_ownLetters o_u_h0_at o_u_h0_from o_u_h0_wrong o_u_h0_wrongAt)  : ¬ h0_wrong.toInt = 0 → o_u_h0_wrong.toInt = h0_wrong.toInt ∧ o_u_h0_wrongAt.toInt = h0_wrongAt.toInt := by
  rcases h with ⟨v3, v4, v5, v6, r14, p0, p1, p2, p3, p4, p5, p6, p7, p8, p9, p10, e0, e1, e2, e3⟩ | ⟨v3, v4, v5, v6, r14, r19, p0, p1, p2, p3, p4, p5, p6, p7, p8, p9, p10, p11, p12, e0, e1, e2, e3⟩ | ⟨v3, v4, v5, v6, r14, r19, v24, v25, p0, p1, p2, p3, p4, p5, p6, p7, p8, p9, p10, p11, p12, p13, p14, p15, e0, e1, e2, e3⟩ | h
  · have k6 := fz_M_word p6
    omega
  · have k6 := fz_M_word p6
    omega
  · have k6 := fz_M_word p6
    have i1_ : (1 : Int32).toInt = 1 := by decide
    have k15 := fz_M_faults p15
    omega
  · exact h.elim
theorem fz_M_endsWell {h0_size : Int32} {h0_at : Int32} {h0_wrong : Int32} {h0_wrongAt : Int32} {f_h0_tape : (Nat → Int32)} {o_u_h0_at : Int32} {o_u_h0_wrong : Int32} {o_u_h0_wrongAt : Int32} (h : S_M_endsWell h0_size h0_at h0_wrong h0_wrongAt f_h0_tape o_u_h0_at o_u_h0_wrong o_u_h0_wrongAt)  : ¬ h0_wrong.toInt = 0 → o_u_h0_wrong.toInt = h0_wrong.toInt ∧ o_u_h0_wrongAt.toInt = h0_wrongAt.toInt := by
  rcases h with ⟨r1, v8, r6, v17, v18, p0, p1, p2, p3, p4, p5, p6, p7, p8, p9, p10, p11, p12, e0, e1, e2⟩ | ⟨r1, v8, r6, z22, p0, p1, p2, p3, p4, p5, p6, p7, p8, p9, p10, e0, e1, e2⟩ | ⟨r1, p0, p1, p2, p3, e0, e1, e2⟩ | h
  · have i1_ : (1 : Int32).toInt = 1 := by decide
    have k12 := fz_M_faults p12
    omega
  · omega
  · omega
  · exact h.elim
theorem fz_M_number_160_4 {r1752 : Int32} {v1569 : Int32} {v1570 : Int32} {v8 : Int32} {v1765 : Int32} {v1766 : Int32} (h : J_M_number_160_4 r1752 v1569 v1570 v8 v1765 v1766)  : ¬ v1569.toInt = 0 → v1765.toInt = v1569.toInt ∧ v1766.toInt = v1570.toInt := by
  rcases h with ⟨p0, e0, e1⟩ | ⟨v1781, v1782, p0, p1, p2, p3, e0, e1⟩ | h
  · omega
  · have i2_ : (2 : Int32).toInt = 2 := by decide
    have k3 := fz_M_faults p3
    omega
  · exact h.elim
theorem fz_M_number_112_5 {v1568 : Int32} {v1569 : Int32} {v1570 : Int32} {z1792 : Int32} {v1803 : Int32} {v1804 : Int32} (h : J_M_number_112_5 v1568 v1569 v1570 z1792 v1803 v1804)  : ¬ v1569.toInt = 0 → v1803.toInt = v1569.toInt ∧ v1804.toInt = v1570.toInt := by
  rcases h with ⟨p0, e0, e1⟩ | ⟨v1828, v1829, p0, p1, p2, p3, e0, e1⟩ | h
  · omega
  · have i1_ : (1 : Int32).toInt = 1 := by decide
    have k3 := fz_M_faults p3
    omega
  · exact h.elim
theorem fz_M_number {x1 : Int32} {x2 : Int32} {h0_size : Int32} {h0_at : Int32} {h0_from : Int32} {h0_wrong : Int32} {h0_wrongAt : Int32} {f_h0_tape : (Nat → Int32)} {o_u_h0_at : Int32} {o_u_h0_from : Int32} {o_u_h0_wrong : Int32} {o_u_h0_wrongAt : Int32} {o_r : Int32} (h : S_M_number x1 x2 h0_size h0_at h0_from h0_wrong h0_wrongAt f_h0_tape o_u_h0_at o_u_h0_from o_u_h0_wrong o_u_h0_wrongAt o_r)  : ¬ h0_wrong.toInt = 0 → o_u_h0_wrong.toInt = h0_wrong.toInt ∧ o_u_h0_wrongAt.toInt = h0_wrongAt.toInt := by
  rcases h with ⟨r1, v8, r6, r14, v916, v917, p0, p1, p2, p3, p4, p5, p6, p7, p8, p9, p10, p11, p12, p13, p14, p15, e0, e1, e2, e3, e4⟩ | ⟨r1, v8, r6, r14, z922, r925, z931, r934, v1567, v1568, v1569, v1570, r1701, r1752, v1765, v1766, r1773, p0, p1, p2, p3, p4, p5, p6, p7, p8, p9, p10, p11, p12, p13, p14, p15, p16, p17, p18, p19, p20, p21, p22, p23, p24, p25, p26, p27, p28, p29, p30, p31, p32, p33, p34, p35, p36, p37, p38, e0, e1, e2, e3, e4⟩ | ⟨r1, v8, r6, r14, z922, r925, z931, r934, v1567, v1568, v1569, v1570, r1701, r1752, v1765, v1766, r1773, p0, p1, p2, p3, p4, p5, p6, p7, p8, p9, p10, p11, p12, p13, p14, p15, p16, p17, p18, p19, p20, p21, p22, p23, p24, p25, p26, p27, p28, p29, p30, p31, p32, p33, p34, p35, p36, p37, p38, e0, e1, e2, e3, e4⟩ | ⟨r1, p0, p1, p2, p3, e0, e1, e2, e3, e4⟩ | h
  · have i1_ : (1 : Int32).toInt = 1 := by decide
    have k15 := fz_M_faults p15
    omega
  · have k32 := fz_M_number_160_4 p32
    omega
  · have k32 := fz_M_number_160_4 p32
    omega
  · omega
  · exact h.elim
theorem fz_M_after {x1 : Int32} {x2 : Int32} {x3 : Int32} {h0_size : Int32} {h0_at : Int32} {h0_from : Int32} {h0_wrong : Int32} {h0_wrongAt : Int32} {f_h0_tape : (Nat → Int32)} {f_h0_ownLetters : (Nat → Int32)} {o_u_h0_at : Int32} {o_u_h0_from : Int32} {o_u_h0_wrong : Int32} {o_u_h0_wrongAt : Int32} {o_r : Int32} (h : S_M_after x1 x2 x3 h0_size h0_at h0_from h0_wrong h0_wrongAt f_h0_tape f_h0_ownLetters o_u_h0_at o_u_h0_from o_u_h0_wrong o_u_h0_wrongAt o_r)  : ¬ h0_wrong.toInt = 0 → o_u_h0_wrong.toInt = h0_wrong.toInt ∧ o_u_h0_wrongAt.toInt = h0_wrongAt.toInt := by
  rcases h with ⟨v3, v4, v5, v6, v15, v16, v17, v18, r13, p0, p1, p2, p3, p4, p5, p6, p7, p8, p9, p10, p11, p12, p13, e0, e1, e2, e3, e4⟩ | h
  · have k5 := fz_M_must p5
    have k13 := fz_M_number p13
    omega
  · exact h.elim
theorem fz_M_name {h0_size : Int32} {h0_at : Int32} {h0_from : Int32} {h0_wrong : Int32} {h0_wrongAt : Int32} {f_h0_tape : (Nat → Int32)} {f_h0_ownLetters : (Nat → Int32)} {o_u_h0_at : Int32} {o_u_h0_from : Int32} {o_u_h0_wrong : Int32} {o_u_h0_wrongAt : Int32} (h : S_M_name h0_size h0_at h0_from h0_wrong h0_wrongAt f_h0_tape f_h0_ownLetters o_u_h0_at o_u_h0_from o_u_h0_wrong o_u_h0_wrongAt)  : ¬ h0_wrong.toInt = 0 → o_u_h0_wrong.toInt = h0_wrong.toInt ∧ o_u_h0_wrongAt.toInt = h0_wrongAt.toInt := by
  rcases h with ⟨v3, v4, v5, v6, r14, r19, z22, p0, p1, p2, p3, p4, p5, p6, p7, p8, p9, p10, p11, p12, p13, p14, e0, e1, e2, e3⟩ | ⟨v3, v4, v5, v6, r14, r19, z22, z26, v31, v32, p0, p1, p2, p3, p4, p5, p6, p7, p8, p9, p10, p11, p12, p13, p14, p15, p16, p17, p18, e0, e1, e2, e3⟩ | ⟨v3, v4, v5, v6, r14, r19, v38, v39, p0, p1, p2, p3, p4, p5, p6, p7, p8, p9, p10, p11, p12, p13, p14, p15, e0, e1, e2, e3⟩ | ⟨v3, v4, v5, v6, r14, p0, p1, p2, p3, p4, p5, p6, p7, p8, p9, p10, e0, e1, e2, e3⟩ | h
  · have k6 := fz_M_word p6
    omega
  · have k6 := fz_M_word p6
    have i1_ : (1 : Int32).toInt = 1 := by decide
    have k18 := fz_M_faults p18
    omega
  · have k6 := fz_M_word p6
    have i1_ : (1 : Int32).toInt = 1 := by decide
    have k15 := fz_M_faults p15
    omega
  · have k6 := fz_M_word p6
    omega
  · exact h.elim
