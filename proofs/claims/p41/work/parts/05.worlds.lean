abbrev fTri (q : Nat → Nat) (r : Nat → Int32) : List Value := [.ref (q (1)), .ref (q (15+6*3)), .ref (q (5)), .ref (q (6)), .ref (q (2)), .ref (q (7)), .ref (q (8)), .ref (q (9+0)), .ref (q (9+1)), .ref (q (11)), .int (r 10), .int (r 11), .int (r 12), .int (r 13), .int (r 14), .int (r 15)]
abbrev fLog (q : Nat → Nat) (r : Nat → Int32) : List Value := [.ref (q (12)), .ref (q (13)), .ref (q (14)), .int (r 3)]
abbrev fComp (q : Nat → Nat) (c : Nat) (r : Nat → Int32) : List Value := [.ref (q (16+6*c)), .ref (q (19+6*c)), .int (r 2), .int (r 3), .int (r 4), .int (r 5), .int (r 6), .int (r 7), .ref (q (20+6*c)), .int (r 9), .int (r 10), .int (r 11), .int (r 12), .int (r 13)]
abbrev fMem (q : Nat → Nat) (c : Nat) (r : Nat → Int32) : List Value := [.ref (q (17+6*c)), .ref (q (18+6*c)), .int (r 2)]
abbrev fProg (q : Nat → Nat) (c : Nat) (r : Nat → Int32) : List Value := [.ref (q (40+4*c)), .ref (q (41+4*c)), .ref (q (42+4*c)), .int (r 3), .int (r 4)]
abbrev fCop (q : Nat → Nat) (c : Nat) (r : Nat → Int32) : List Value := [.ref (q (52+5*c)), .ref (q (55+5*c)), .int (r 2)]
abbrev fSens (q : Nat → Nat) (c : Nat) (r : Nat → Int32) : List Value := [.int (r 0), .int (r 1), .int (r 2), .int (r 3)]
abbrev fAct (q : Nat → Nat) (c : Nat) (r : Nat → Int32) : List Value := [.ref (q (71+2*c)), .int (r 1), .int (r 2)]
def TXL (cy : Nat → ClassId) (q : Nat → Nat) (r : Nat → Int32) : List va_E := [
  .inr (7, fTri q r),
  .inl (cy 3, 3, .inr (.inr (.inr (.inr (fun i => some (q (15+6*i))))))),
  .inl (cy 6, 2, .inr (.inr (.inr (.inr (fun i => some (q (3+i))))))),
  .inl (cy 0, 3, .inl r),
  .inl (cy 0, 3, .inl r),
  .inl (cy 4, 3, .inr (.inr (.inr (.inr (fun i => some (q (39+4*i))))))),
  .inl (cy 5, 3, .inr (.inr (.inr (.inr (fun i => some (q (51+5*i))))))),
  .inl (cy 7, 4, .inr (.inr (.inr (.inr (fun i => some (q (66+i))))))),
  .inl (cy 8, 4, .inr (.inr (.inr (.inr (fun i => some (q (70+2*i))))))),
  .inl (cy 0, 4, .inl r),
  .inl (cy 0, 4, .inl r),
  .inr (3, fLog q r),
  .inl (cy 0, 30, .inl r),
  .inl (cy 0, 30, .inl r),
  .inl (cy 2, 30, .inl r),
  .inr (1, fComp q 0 r),
  .inr (4, fMem q 0 r),
  .inl (cy 0, 18, .inl r),
  .inl (cy 0, 18, .inl r),
  .inl (cy 0, 3, .inl r),
  .inl (cy 0, 4, .inl r),
  .inr (1, fComp q 1 r),
  .inr (4, fMem q 1 r),
  .inl (cy 0, 18, .inl r),
  .inl (cy 0, 18, .inl r),
  .inl (cy 0, 3, .inl r),
  .inl (cy 0, 4, .inl r),
  .inr (1, fComp q 2 r),
  .inr (4, fMem q 2 r),
  .inl (cy 0, 18, .inl r),
  .inl (cy 0, 18, .inl r),
  .inl (cy 0, 3, .inl r),
  .inl (cy 0, 4, .inl r),
  .inr (1, fComp q 3 r),
  .inr (4, fMem q 3 r),
  .inl (cy 0, 18, .inl r),
  .inl (cy 0, 18, .inl r),
  .inl (cy 0, 3, .inl r),
  .inl (cy 0, 4, .inl r),
  .inr (5, fProg q 0 r),
  .inl (cy 2, 10, .inl r),
  .inl (cy 0, 10, .inl r),
  .inl (cy 0, 10, .inl r),
  .inr (5, fProg q 1 r),
  .inl (cy 2, 10, .inl r),
  .inl (cy 0, 10, .inl r),
  .inl (cy 0, 10, .inl r),
  .inr (5, fProg q 2 r),
  .inl (cy 2, 10, .inl r),
  .inl (cy 0, 10, .inl r),
  .inl (cy 0, 10, .inl r),
  .inr (2, fCop q 0 r),
  .inl (cy 6, 2, .inr (.inr (.inr (.inr (fun i => some (q (53+5*0+i))))))),
  .inl (cy 0, 6, .inl r),
  .inl (cy 0, 6, .inl r),
  .inl (cy 1, 2, .inl r),
  .inr (2, fCop q 1 r),
  .inl (cy 6, 2, .inr (.inr (.inr (.inr (fun i => some (q (53+5*1+i))))))),
  .inl (cy 0, 6, .inl r),
  .inl (cy 0, 6, .inl r),
  .inl (cy 1, 2, .inl r),
  .inr (2, fCop q 2 r),
  .inl (cy 6, 2, .inr (.inr (.inr (.inr (fun i => some (q (53+5*2+i))))))),
  .inl (cy 0, 6, .inl r),
  .inl (cy 0, 6, .inl r),
  .inl (cy 1, 2, .inl r),
  .inr (6, fSens q 0 r),
  .inr (6, fSens q 1 r),
  .inr (6, fSens q 2 r),
  .inr (6, fSens q 3 r),
  .inr (0, fAct q 0 r),
  .inl (cy 0, 3, .inl r),
  .inr (0, fAct q 1 r),
  .inl (cy 0, 3, .inl r),
  .inr (0, fAct q 2 r),
  .inl (cy 0, 3, .inl r),
  .inr (0, fAct q 3 r),
  .inl (cy 0, 3, .inl r)]
def TX (cy : Nat → ClassId) (q : Nat → Nat) : gX := fun k r => (TXL cy q r).getD k (.inl (0, 0, .inl r))
theorem kk_Tri : 0 < 78 := by decide
theorem ce_Tri {cy : Nat → ClassId} {q : Nat → Nat} : ∀ r, TX cy q (0) r = .inr (7, fTri q r) := fun _ => rfl
theorem kk_CompArr : 1 < 78 := by decide
theorem ce_CompArr {cy : Nat → ClassId} {q : Nat → Nat} : ∀ r, TX cy q (1) r = .inl (cy 3, 3, .inr (.inr (.inr (.inr (fun i => some (q (15+6*i))))))) := fun _ => rfl
theorem kk_SlotOut : 2 < 78 := by decide
theorem ce_SlotOut {cy : Nat → ClassId} {q : Nat → Nat} : ∀ r, TX cy q (2) r = .inl (cy 6, 2, .inr (.inr (.inr (.inr (fun i => some (q (3+i))))))) := fun _ => rfl
theorem kk_SlotIn {c : Nat} (hc : c < 2) : 3+c < 78 := by omega
theorem ce_SlotIn {cy : Nat → ClassId} {q : Nat → Nat} {c : Nat} (hc : c < 2) : ∀ r, TX cy q (3+c) r = .inl (cy 0, 3, .inl r) := fun _ => match c, hc with
  | 0, _ => rfl
  | 1, _ => rfl
theorem kk_ProgArr : 5 < 78 := by decide
theorem ce_ProgArr {cy : Nat → ClassId} {q : Nat → Nat} : ∀ r, TX cy q (5) r = .inl (cy 4, 3, .inr (.inr (.inr (.inr (fun i => some (q (39+4*i))))))) := fun _ => rfl
theorem kk_CopArr : 6 < 78 := by decide
theorem ce_CopArr {cy : Nat → ClassId} {q : Nat → Nat} : ∀ r, TX cy q (6) r = .inl (cy 5, 3, .inr (.inr (.inr (.inr (fun i => some (q (51+5*i))))))) := fun _ => rfl
theorem kk_SensArr : 7 < 78 := by decide
theorem ce_SensArr {cy : Nat → ClassId} {q : Nat → Nat} : ∀ r, TX cy q (7) r = .inl (cy 7, 4, .inr (.inr (.inr (.inr (fun i => some (q (66+i))))))) := fun _ => rfl
theorem kk_ActArr : 8 < 78 := by decide
theorem ce_ActArr {cy : Nat → ClassId} {q : Nat → Nat} : ∀ r, TX cy q (8) r = .inl (cy 8, 4, .inr (.inr (.inr (.inr (fun i => some (q (70+2*i))))))) := fun _ => rfl
theorem kk_Out {c : Nat} (hc : c < 2) : 9+c < 78 := by omega
theorem ce_Out {cy : Nat → ClassId} {q : Nat → Nat} {c : Nat} (hc : c < 2) : ∀ r, TX cy q (9+c) r = .inl (cy 0, 4, .inl r) := fun _ => match c, hc with
  | 0, _ => rfl
  | 1, _ => rfl
theorem kk_Log : 11 < 78 := by decide
theorem ce_Log {cy : Nat → ClassId} {q : Nat → Nat} : ∀ r, TX cy q (11) r = .inr (3, fLog q r) := fun _ => rfl
theorem kk_LogT : 12 < 78 := by decide
theorem ce_LogT {cy : Nat → ClassId} {q : Nat → Nat} : ∀ r, TX cy q (12) r = .inl (cy 0, 30, .inl r) := fun _ => rfl
theorem kk_LogC : 13 < 78 := by decide
theorem ce_LogC {cy : Nat → ClassId} {q : Nat → Nat} : ∀ r, TX cy q (13) r = .inl (cy 0, 30, .inl r) := fun _ => rfl
theorem kk_LogL : 14 < 78 := by decide
theorem ce_LogL {cy : Nat → ClassId} {q : Nat → Nat} : ∀ r, TX cy q (14) r = .inl (cy 2, 30, .inl r) := fun _ => rfl
theorem kk_Comp {c : Nat} (hc : c < 4) : 15+6*c < 78 := by omega
theorem ce_Comp {cy : Nat → ClassId} {q : Nat → Nat} {c : Nat} (hc : c < 4) : ∀ r, TX cy q (15+6*c) r = .inr (1, fComp q c r) := fun _ => match c, hc with
  | 0, _ => rfl
  | 1, _ => rfl
  | 2, _ => rfl
  | 3, _ => rfl
theorem kk_Mem {c : Nat} (hc : c < 4) : 16+6*c < 78 := by omega
theorem ce_Mem {cy : Nat → ClassId} {q : Nat → Nat} {c : Nat} (hc : c < 4) : ∀ r, TX cy q (16+6*c) r = .inr (4, fMem q c r) := fun _ => match c, hc with
  | 0, _ => rfl
  | 1, _ => rfl
  | 2, _ => rfl
  | 3, _ => rfl
theorem kk_Wr {c : Nat} (hc : c < 4) : 17+6*c < 78 := by omega
theorem ce_Wr {cy : Nat → ClassId} {q : Nat → Nat} {c : Nat} (hc : c < 4) : ∀ r, TX cy q (17+6*c) r = .inl (cy 0, 18, .inl r) := fun _ => match c, hc with
  | 0, _ => rfl
  | 1, _ => rfl
  | 2, _ => rfl
  | 3, _ => rfl
theorem kk_Fl {c : Nat} (hc : c < 4) : 18+6*c < 78 := by omega
theorem ce_Fl {cy : Nat → ClassId} {q : Nat → Nat} {c : Nat} (hc : c < 4) : ∀ r, TX cy q (18+6*c) r = .inl (cy 0, 18, .inl r) := fun _ => match c, hc with
  | 0, _ => rfl
  | 1, _ => rfl
  | 2, _ => rfl
  | 3, _ => rfl
theorem kk_Lies {c : Nat} (hc : c < 4) : 19+6*c < 78 := by omega
theorem ce_Lies {cy : Nat → ClassId} {q : Nat → Nat} {c : Nat} (hc : c < 4) : ∀ r, TX cy q (19+6*c) r = .inl (cy 0, 3, .inl r) := fun _ => match c, hc with
  | 0, _ => rfl
  | 1, _ => rfl
  | 2, _ => rfl
  | 3, _ => rfl
theorem kk_Regs {c : Nat} (hc : c < 4) : 20+6*c < 78 := by omega
theorem ce_Regs {cy : Nat → ClassId} {q : Nat → Nat} {c : Nat} (hc : c < 4) : ∀ r, TX cy q (20+6*c) r = .inl (cy 0, 4, .inl r) := fun _ => match c, hc with
  | 0, _ => rfl
  | 1, _ => rfl
  | 2, _ => rfl
  | 3, _ => rfl
theorem kk_Prog {c : Nat} (hc : c < 3) : 39+4*c < 78 := by omega
theorem ce_Prog {cy : Nat → ClassId} {q : Nat → Nat} {c : Nat} (hc : c < 3) : ∀ r, TX cy q (39+4*c) r = .inr (5, fProg q c r) := fun _ => match c, hc with
  | 0, _ => rfl
  | 1, _ => rfl
  | 2, _ => rfl
theorem kk_PK {c : Nat} (hc : c < 3) : 40+4*c < 78 := by omega
theorem ce_PK {cy : Nat → ClassId} {q : Nat → Nat} {c : Nat} (hc : c < 3) : ∀ r, TX cy q (40+4*c) r = .inl (cy 2, 10, .inl r) := fun _ => match c, hc with
  | 0, _ => rfl
  | 1, _ => rfl
  | 2, _ => rfl
theorem kk_PR {c : Nat} (hc : c < 3) : 41+4*c < 78 := by omega
theorem ce_PR {cy : Nat → ClassId} {q : Nat → Nat} {c : Nat} (hc : c < 3) : ∀ r, TX cy q (41+4*c) r = .inl (cy 0, 10, .inl r) := fun _ => match c, hc with
  | 0, _ => rfl
  | 1, _ => rfl
  | 2, _ => rfl
theorem kk_PN {c : Nat} (hc : c < 3) : 42+4*c < 78 := by omega
theorem ce_PN {cy : Nat → ClassId} {q : Nat → Nat} {c : Nat} (hc : c < 3) : ∀ r, TX cy q (42+4*c) r = .inl (cy 0, 10, .inl r) := fun _ => match c, hc with
  | 0, _ => rfl
  | 1, _ => rfl
  | 2, _ => rfl
theorem kk_Cop {c : Nat} (hc : c < 3) : 51+5*c < 78 := by omega
theorem ce_Cop {cy : Nat → ClassId} {q : Nat → Nat} {c : Nat} (hc : c < 3) : ∀ r, TX cy q (51+5*c) r = .inr (2, fCop q c r) := fun _ => match c, hc with
  | 0, _ => rfl
  | 1, _ => rfl
  | 2, _ => rfl
theorem kk_CW {c : Nat} (hc : c < 3) : 52+5*c < 78 := by omega
theorem ce_CW {cy : Nat → ClassId} {q : Nat → Nat} {c : Nat} (hc : c < 3) : ∀ r, TX cy q (52+5*c) r = .inl (cy 6, 2, .inr (.inr (.inr (.inr (fun i => some (q (53+5*c+i))))))) := fun _ => match c, hc with
  | 0, _ => rfl
  | 1, _ => rfl
  | 2, _ => rfl
theorem kk_CWi {c : Nat} (hc : c < 3) {d : Nat} (hd : d < 2) : 53+5*c+d < 78 := by omega
theorem ce_CWi {cy : Nat → ClassId} {q : Nat → Nat} {c : Nat} (hc : c < 3) {d : Nat} (hd : d < 2) : ∀ r, TX cy q (53+5*c+d) r = .inl (cy 0, 6, .inl r) := fun _ => match c, hc, d, hd with
  | 0, _, 0, _ => rfl
  | 0, _, 1, _ => rfl
  | 1, _, 0, _ => rfl
  | 1, _, 1, _ => rfl
  | 2, _, 0, _ => rfl
  | 2, _, 1, _ => rfl
theorem kk_CG {c : Nat} (hc : c < 3) : 55+5*c < 78 := by omega
theorem ce_CG {cy : Nat → ClassId} {q : Nat → Nat} {c : Nat} (hc : c < 3) : ∀ r, TX cy q (55+5*c) r = .inl (cy 1, 2, .inl r) := fun _ => match c, hc with
  | 0, _ => rfl
  | 1, _ => rfl
  | 2, _ => rfl
theorem kk_Sens {c : Nat} (hc : c < 4) : 66+c < 78 := by omega
theorem ce_Sens {cy : Nat → ClassId} {q : Nat → Nat} {c : Nat} (hc : c < 4) : ∀ r, TX cy q (66+c) r = .inr (6, fSens q c r) := fun _ => match c, hc with
  | 0, _ => rfl
  | 1, _ => rfl
  | 2, _ => rfl
  | 3, _ => rfl
theorem kk_Act {c : Nat} (hc : c < 4) : 70+2*c < 78 := by omega
theorem ce_Act {cy : Nat → ClassId} {q : Nat → Nat} {c : Nat} (hc : c < 4) : ∀ r, TX cy q (70+2*c) r = .inr (0, fAct q c r) := fun _ => match c, hc with
  | 0, _ => rfl
  | 1, _ => rfl
  | 2, _ => rfl
  | 3, _ => rfl
theorem kk_ActF {c : Nat} (hc : c < 4) : 71+2*c < 78 := by omega
theorem ce_ActF {cy : Nat → ClassId} {q : Nat → Nat} {c : Nat} (hc : c < 4) : ∀ r, TX cy q (71+2*c) r = .inl (cy 0, 3, .inl r) := fun _ => match c, hc with
  | 0, _ => rfl
  | 1, _ => rfl
  | 2, _ => rfl
  | 3, _ => rfl
