/-! Cells: has, valueAt, change, drop, spans, within -/
section
variable {d : Nat} {z : AZ} {f : AH} {Q : Option Value → AZ → AH → Prop} {o v n : Nat} {th : Int32} {g : Nat → Int32}
/-- a Cells object: its values' cell, whether it is there, its size -/
def hasb (x : Int32) (n : Nat) : Prop := ¬ x < nI 0 ∧ x < nI n
theorem c_has {x : Int32} (h : f o = oB 0 [.ref v, .int th, .int (nI n)]) : Cw (d + 1) 4 [.ref o, .int x] z f Q ↔ Q (some (.int (if x < nI 0 then nI 0 else if x < nI n then nI 1 else nI 0))) z f := by
  simp (disch := omega) only [W4, s_0, s_1, r_2, r_3, r_4, r_Li, r_Ll, r_La, r_5, r_6, r_7, s_8, r_In, r_10, r_11, r_12, s_13, s_14, r_15, r_16, r_17, r_18, r_19, r_20, r_21, r_22, r_23, r_24, r_25, r_26, r_27, r_28, r_30, r_30r, r_31, r_32, s_40, s_41, s_42, s_43, s_44, s_45, r_46, r_47, r_48, r_49, r_50, r_51, r_52, r_53, r_53n, r_54, r_Gv, r_Gu, r_60, r_61, r_62, r_63, r_64, r_65, r_66, r_67, r_68, r_69, r_70, r_71, r_72, r_73, r_74, s_Ca, r_80_0, r_80_1, r_80_2, r_80_3, r_80_4, r_80_5, r_80_6, s_81, s_82, s_83, s_84, r_90, r_91, r_92, r_93, r_94, s_Z0, s_Z1, LG, LSt, LC, nlR, psR, enR, enL, TK, CI, CLL, KD, okR, gf_o, pf_o, al_i, ia_n, ia_9, is_n, la_n, lst_n, za_n, cpy_n, qs_3, qs_4, up_s, up_n, up_u, lt_nI, le_nI, eq_nI, List.length_cons, List.length_nil, List.getElem?_cons_zero, List.getElem?_cons_succ, List.set_cons_zero, List.set_cons_succ, true_and, and_true, if_true, if_false, Nat.zero_add, cw_wp, h]
  by_cases h1 : x < nI 0
  · simp only [h1, if_true]
  · by_cases h2 : x < nI n <;> simp only [h1, h2, if_true, if_false]
end
