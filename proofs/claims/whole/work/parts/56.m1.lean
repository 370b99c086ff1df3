section CONSM
def M00 : List (Nat → Int32) := [(fun j => if j = 38 then 32 else 0)]
def M0 : TS := fun k => M00.getD k (fun _ => 0)
set_option maxHeartbeats 8000000 in
set_option maxRecDepth 100000 in
theorem x9_conv {D : va_G} {cy : Nat → ClassId} {A : Nat → Prop} {H : Heap} {h0 : Nat} {q0 : Nat} {q1 : Nat} {q2 : Nat} {q3 : Nat} {q4 : Nat} {q5 : Nat} {q6 : Nat} {q7 : Nat} {q8 : Nat} {q9 : Nat} {q10 : Nat} {q11 : Nat} {q12 : Nat} {q13 : Nat} {q14 : Nat} {q15 : Nat} {q16 : Nat} {q17 : Nat} {q18 : Nat} {q19 : Nat} {q20 : Nat} {q21 : Nat} {q22 : Nat} {q23 : Nat} {q24 : Nat} {q25 : Nat} {q26 : Nat} {q27 : Nat} {q28 : Nat} {q29 : Nat} {q30 : Nat} {q31 : Nat} {q32 : Nat} {q33 : Nat} {q34 : Nat} {q35 : Nat} {q36 : Nat} {q37 : Nat} (hP : va_P D vwCl ([(h0, .inr (8, [.int (0 : Int32), .int 0, .int 0, .ref q0, .ref q1, .ref q2, .ref q3, .ref q4, .ref q5, .ref q6, .ref q7, .ref q8, .ref q9, .ref q10, .ref q11, .ref q12, .ref q13, .ref q14, .ref q15, .ref q16, .ref q17, .ref q18, .ref q19, .ref q20, .ref q21, .ref q22, .ref q23, .ref q24, .ref q25, .ref q26, .ref q27, .ref q28, .ref q29, .ref q30, .ref q31, .ref q32, .ref q33, .ref q34, .int (32 : Int32), .int 0, .ref q35, .ref q36, .ref q37, .int 0])), (q0, .inl (cy 2, 30, .inl (fun _ => 0))), (q1, .inl (cy 0, 30, .inl (fun _ => 0))), (q2, .inl (cy 0, 30, .inl (fun _ => 0))), (q3, .inl (cy 0, 3, .inl (fun _ => 0))), (q4, .inl (cy 0, 6, .inl (fun _ => 0))), (q5, .inl (cy 0, 72, .inl (fun _ => 0))), (q6, .inl (cy 0, 72, .inl (fun _ => 0))), (q7, .inl (cy 0, 16, .inl (fun _ => 0))), (q8, .inl (cy 0, 4, .inl (fun _ => 0))), (q9, .inl (cy 1, 4, .inl (fun _ => 0))), (q10, .inl (cy 1, 4, .inl (fun _ => 0))), (q11, .inl (cy 0, 4, .inl (fun _ => 0))), (q12, .inl (cy 0, 4, .inl (fun _ => 0))), (q13, .inl (cy 0, 4, .inl (fun _ => 0))), (q14, .inl (cy 0, 4, .inl (fun _ => 0))), (q15, .inl (cy 0, 4, .inl (fun _ => 0))), (q16, .inl (cy 0, 4, .inl (fun _ => 0))), (q17, .inl (cy 0, 4, .inl (fun _ => 0))), (q18, .inl (cy 1, 4, .inl (fun _ => 0))), (q19, .inl (cy 0, 4, .inl (fun _ => 0))), (q20, .inl (cy 0, 4, .inl (fun _ => 0))), (q21, .inl (cy 0, 4, .inl (fun _ => 0))), (q22, .inl (cy 0, 4, .inl (fun _ => 0))), (q23, .inl (cy 0, 3, .inl (fun _ => 0))), (q24, .inl (cy 0, 12, .inl (fun _ => 0))), (q25, .inl (cy 0, 4, .inl (fun _ => 0))), (q26, .inl (cy 0, 4, .inl (fun _ => 0))), (q27, .inl (cy 0, 4, .inl (fun _ => 0))), (q28, .inl (cy 0, 9, .inl (fun _ => 0))), (q29, .inl (cy 0, 36, .inl (fun _ => 0))), (q30, .inl (cy 1, 6, .inl (fun _ => 0))), (q31, .inl (cy 0, 3, .inl (fun _ => 0))), (q32, .inl (cy 0, 12, .inl (fun _ => 0))), (q33, .inl (cy 0, 4, .inl (fun _ => 0))), (q34, .inl (cy 1, 4, .inl (fun _ => 0))), (q35, .inl (cy 0, 30, .inl (fun _ => 0))), (q36, .inl (cy 0, 30, .inl (fun _ => 0))), (q37, .inl (cy 0, 30, .inl (fun _ => 0)))]) H) (hD : va_D A ([(h0, .inr (8, [.int (0 : Int32), .int 0, .int 0, .ref q0, .ref q1, .ref q2, .ref q3, .ref q4, .ref q5, .ref q6, .ref q7, .ref q8, .ref q9, .ref q10, .ref q11, .ref q12, .ref q13, .ref q14, .ref q15, .ref q16, .ref q17, .ref q18, .ref q19, .ref q20, .ref q21, .ref q22, .ref q23, .ref q24, .ref q25, .ref q26, .ref q27, .ref q28, .ref q29, .ref q30, .ref q31, .ref q32, .ref q33, .ref q34, .int (32 : Int32), .int 0, .ref q35, .ref q36, .ref q37, .int 0])), (q0, .inl (cy 2, 30, .inl (fun _ => 0))), (q1, .inl (cy 0, 30, .inl (fun _ => 0))), (q2, .inl (cy 0, 30, .inl (fun _ => 0))), (q3, .inl (cy 0, 3, .inl (fun _ => 0))), (q4, .inl (cy 0, 6, .inl (fun _ => 0))), (q5, .inl (cy 0, 72, .inl (fun _ => 0))), (q6, .inl (cy 0, 72, .inl (fun _ => 0))), (q7, .inl (cy 0, 16, .inl (fun _ => 0))), (q8, .inl (cy 0, 4, .inl (fun _ => 0))), (q9, .inl (cy 1, 4, .inl (fun _ => 0))), (q10, .inl (cy 1, 4, .inl (fun _ => 0))), (q11, .inl (cy 0, 4, .inl (fun _ => 0))), (q12, .inl (cy 0, 4, .inl (fun _ => 0))), (q13, .inl (cy 0, 4, .inl (fun _ => 0))), (q14, .inl (cy 0, 4, .inl (fun _ => 0))), (q15, .inl (cy 0, 4, .inl (fun _ => 0))), (q16, .inl (cy 0, 4, .inl (fun _ => 0))), (q17, .inl (cy 0, 4, .inl (fun _ => 0))), (q18, .inl (cy 1, 4, .inl (fun _ => 0))), (q19, .inl (cy 0, 4, .inl (fun _ => 0))), (q20, .inl (cy 0, 4, .inl (fun _ => 0))), (q21, .inl (cy 0, 4, .inl (fun _ => 0))), (q22, .inl (cy 0, 4, .inl (fun _ => 0))), (q23, .inl (cy 0, 3, .inl (fun _ => 0))), (q24, .inl (cy 0, 12, .inl (fun _ => 0))), (q25, .inl (cy 0, 4, .inl (fun _ => 0))), (q26, .inl (cy 0, 4, .inl (fun _ => 0))), (q27, .inl (cy 0, 4, .inl (fun _ => 0))), (q28, .inl (cy 0, 9, .inl (fun _ => 0))), (q29, .inl (cy 0, 36, .inl (fun _ => 0))), (q30, .inl (cy 1, 6, .inl (fun _ => 0))), (q31, .inl (cy 0, 3, .inl (fun _ => 0))), (q32, .inl (cy 0, 12, .inl (fun _ => 0))), (q33, .inl (cy 0, 4, .inl (fun _ => 0))), (q34, .inl (cy 1, 4, .inl (fun _ => 0))), (q35, .inl (cy 0, 30, .inl (fun _ => 0))), (q36, .inl (cy 0, 30, .inl (fun _ => 0))), (q37, .inl (cy 0, 30, .inl (fun _ => 0)))])) : ∃ q : Nat → Nat, h0 = q 0 ∧ gJ 39 q ∧ va_P D vwCl (gS 39 q (MX cy q) M0) H ∧ va_D A (gS 39 q (MX cy q) M0) := by
  have h := w_num (n := 39) (q := fun i => ([h0, q0, q1, q2, q3, q4, q5, q6, q7, q8, q9, q10, q11, q12, q13, q14, q15, q16, q17, q18, q19, q20, q21, q22, q23, q24, q25, q26, q27, q28, q29, q30, q31, q32, q33, q34, q35, q36, q37] : List Nat).getD i 0) (X := MX cy (fun i => ([h0, q0, q1, q2, q3, q4, q5, q6, q7, q8, q9, q10, q11, q12, q13, q14, q15, q16, q17, q18, q19, q20, q21, q22, q23, q24, q25, q26, q27, q28, q29, q30, q31, q32, q33, q34, q35, q36, q37] : List Nat).getD i 0)) (σ := M0) hP hD [0, 1, 2, 3, 4, 5, 6, 7, 8, 9, 10, 11, 12, 13, 14, 15, 16, 17, 18, 19, 20, 21, 22, 23, 24, 25, 26, 27, 28, 29, 30, 31, 32, 33, 34, 35, 36, 37, 38] (by decide +kernel) (by
    refine lt_s ?_ ⟨38, _, rfl, rfl, fun H h => h⟩
    refine lt_s ?_ ⟨37, _, rfl, rfl, fun H h => h⟩
    refine lt_s ?_ ⟨36, _, rfl, rfl, fun H h => h⟩
    refine lt_s ?_ ⟨35, _, rfl, rfl, fun H h => h⟩
    refine lt_s ?_ ⟨34, _, rfl, rfl, fun H h => h⟩
    refine lt_s ?_ ⟨33, _, rfl, rfl, fun H h => h⟩
    refine lt_s ?_ ⟨32, _, rfl, rfl, fun H h => h⟩
    refine lt_s ?_ ⟨31, _, rfl, rfl, fun H h => h⟩
    refine lt_s ?_ ⟨30, _, rfl, rfl, fun H h => h⟩
    refine lt_s ?_ ⟨29, _, rfl, rfl, fun H h => h⟩
    refine lt_s ?_ ⟨28, _, rfl, rfl, fun H h => h⟩
    refine lt_s ?_ ⟨27, _, rfl, rfl, fun H h => h⟩
    refine lt_s ?_ ⟨26, _, rfl, rfl, fun H h => h⟩
    refine lt_s ?_ ⟨25, _, rfl, rfl, fun H h => h⟩
    refine lt_s ?_ ⟨24, _, rfl, rfl, fun H h => h⟩
    refine lt_s ?_ ⟨23, _, rfl, rfl, fun H h => h⟩
    refine lt_s ?_ ⟨22, _, rfl, rfl, fun H h => h⟩
    refine lt_s ?_ ⟨21, _, rfl, rfl, fun H h => h⟩
    refine lt_s ?_ ⟨20, _, rfl, rfl, fun H h => h⟩
    refine lt_s ?_ ⟨19, _, rfl, rfl, fun H h => h⟩
    refine lt_s ?_ ⟨18, _, rfl, rfl, fun H h => h⟩
    refine lt_s ?_ ⟨17, _, rfl, rfl, fun H h => h⟩
    refine lt_s ?_ ⟨16, _, rfl, rfl, fun H h => h⟩
    refine lt_s ?_ ⟨15, _, rfl, rfl, fun H h => h⟩
    refine lt_s ?_ ⟨14, _, rfl, rfl, fun H h => h⟩
    refine lt_s ?_ ⟨13, _, rfl, rfl, fun H h => h⟩
    refine lt_s ?_ ⟨12, _, rfl, rfl, fun H h => h⟩
    refine lt_s ?_ ⟨11, _, rfl, rfl, fun H h => h⟩
    refine lt_s ?_ ⟨10, _, rfl, rfl, fun H h => h⟩
    refine lt_s ?_ ⟨9, _, rfl, rfl, fun H h => h⟩
    refine lt_s ?_ ⟨8, _, rfl, rfl, fun H h => h⟩
    refine lt_s ?_ ⟨7, _, rfl, rfl, fun H h => h⟩
    refine lt_s ?_ ⟨6, _, rfl, rfl, fun H h => h⟩
    refine lt_s ?_ ⟨5, _, rfl, rfl, fun H h => h⟩
    refine lt_s ?_ ⟨4, _, rfl, rfl, fun H h => h⟩
    refine lt_s ?_ ⟨3, _, rfl, rfl, fun H h => h⟩
    refine lt_s ?_ ⟨2, _, rfl, rfl, fun H h => h⟩
    refine lt_s ?_ ⟨1, _, rfl, rfl, fun H h => h⟩
    refine lt_s ?_ ⟨0, _, rfl, rfl, fun H h => h⟩
    exact lt_0)
  exact ⟨_, rfl, h.1, h.2.1, h.2.2⟩
end CONSM
