abbrev fTri (q : Nat → Nat) (r : Nat → Int32) : List Value := [.ref (q (1)), .ref (q (15+6*3)), .ref (q (5)), .ref (q (6)), .ref (q (2)), .ref (q (7)), .ref (q (8)), .ref (q (9+0)), .ref (q (9+1)), .ref (q (11)), .int (r 10), .int (r 11), .int (r 12), .int (r 13), .int (r 14), .int (r 15)]
abbrev fLog (q : Nat → Nat) (r : Nat → Int32) : List Value := [.ref (q (12)), .ref (q (13)), .ref (q (14)), .int (r 3)]
abbrev fComp (q : Nat → Nat) (c : Nat) (r : Nat → Int32) : List Value := [.ref (q (16+6*c)), .ref (q (19+6*c)), .int (r 2), .int (r 3), .int (r 4), .int (r 5), .int (r 6), .int (r 7), .ref (q (20+6*c)), .int (r 9), .int (r 10), .int (r 11), .int (r 12), .int (r 13)]
abbrev fMem (q : Nat → Nat) (c : Nat) (r : Nat → Int32) : List Value := [.ref (q (17+6*c)), .ref (q (18+6*c)), .int (r 2)]
abbrev fProg (q : Nat → Nat) (c : Nat) (r : Nat → Int32) : List Value := [.ref (q (40+4*c)), .ref (q (41+4*c)), .ref (q (42+4*c)), .int (r 3), .int (r 4)]
abbrev fCop (q : Nat → Nat) (c : Nat) (r : Nat → Int32) : List Value := [.ref (q (52+5*c)), .ref (q (55+5*c)), .int (r 2)]
abbrev fSens (q : Nat → Nat) (c : Nat) (r : Nat → Int32) : List Value := [.int (r 0), .int (r 1), .int (r 2), .int (r 3)]
abbrev fAct (q : Nat → Nat) (c : Nat) (r : Nat → Int32) : List Value := [.ref (q (71+2*c)), .int (r 1), .int (r 2)]
def TXL (cy : Nat → ClassId) (q : Nat → Nat) (r : Nat → Int32) : List va_E := [
  .inr (7, fTri q r),
  .inl (cy 3, 3, .inr (.inr (.inr (.inr (fun i => some (q (15+6*i))))))),
  .inl (cy 6, 2, .inr (.inr (.inr (.inr (fun i => some (q (3+i))))))),
  .inl (cy 0, 3, .inl r),
  .inl (cy 0, 3, .inl r),
  .inl (cy 4, 3, .inr (.inr (.inr (.inr (fun i => some (q (39+4*i))))))),
  .inl (cy 5, 3, .inr (.inr (.inr (.inr (fun i => some (q (51+5*i))))))),
  .inl (cy 7, 4, .inr (.inr (.inr (.inr (fun i => some (q (66+i))))))),
  .inl (cy 8, 4, .inr (.inr (.inr (.inr (fun i => some (q (70+2*i))))))),
  .inl (cy 0, 4, .inl r),
  .inl (cy 0, 4, .inl r),
  .inr (3, fLog q r),
  .inl (cy 0, 30, .inl r),
  .inl (cy 0, 30, .inl r),
  .inl (cy 2, 30, .inl r),
  .inr (1, fComp q 0 r),
  .inr (4, fMem q 0 r),
  .inl (cy 0, 18, .inl r),
  .inl (cy 0, 18, .inl r),
  .inl (cy 0, 3, .inl r),
  .inl (cy 0, 4, .inl r),
  .inr (1, fComp q 1 r),
  .inr (4, fMem q 1 r),
  .inl (cy 0, 18, .inl r),
  .inl (cy 0, 18, .inl r),
  .inl (cy 0, 3, .inl r),
  .inl (cy 0, 4, .inl r),
  .inr (1, fComp q 2 r),
  .inr (4, fMem q 2 r),
  .inl (cy 0, 18, .inl r),
  .inl (cy 0, 18, .inl r),
  .inl (cy 0, 3, .inl r),
  .inl (cy 0, 4, .inl r),
  .inr (1, fComp q 3 r),
  .inr (4, fMem q 3 r),
  .inl (cy 0, 18, .inl r),
  .inl (cy 0, 18, .inl r),
  .inl (cy 0, 3, .inl r),
  .inl (cy 0, 4, .inl r),
  .inr (5, fProg q 0 r),
  .inl (cy 2, 10, .inl r),
  .inl (cy 0, 10, .inl r),
  .inl (cy 0, 10, .inl r),
  .inr (5, fProg q 1 r),
  .inl (cy 2, 10, .inl r),
  .inl (cy 0, 10, .inl r),
  .inl (cy 0, 10, .inl r),
  .inr (5, fProg q 2 r),
  .inl (cy 2, 10, .inl r),
  .inl (cy 0, 10, .inl r),
  .inl (cy 0, 10, .inl r),
  .inr (2, fCop q 0 r),
  .inl (cy 6, 2, .inr (.inr (.inr (.inr (fun i => some (q (53+5*0+i))))))),
  .inl (cy 0, 6, .inl r),
  .inl (cy 0, 6, .inl r),
  .inl (cy 1, 2, .inl r),
  .inr (2, fCop q 1 r),
  .inl (cy 6, 2, .inr (.inr (.inr (.inr (fun i => some (q (53+5*1+i))))))),
  .inl (cy 0, 6, .inl r),
  .inl (cy 0, 6, .inl r),
  .inl (cy 1, 2, .inl r),
  .inr (2, fCop q 2 r),
  .inl (cy 6, 2, .inr (.inr (.inr (.inr (fun i => some (q (53+5*2+i))))))),
  .inl (cy 0, 6, .inl r),
  .inl (cy 0, 6, .inl r),
  .inl (cy 1, 2, .inl r),
  .inr (6, fSens q 0 r),
  .inr (6, fSens q 1 r),
  .inr (6, fSens q 2 r),
  .inr (6, fSens q 3 r),
  .inr (0, fAct q 0 r),
  .inl (cy 0, 3, .inl r),
  .inr (0, fAct q 1 r),
  .inl (cy 0, 3, .inl r),
  .inr (0, fAct q 2 r),
  .inl (cy 0, 3, .inl r),
  .inr (0, fAct q 3 r),
  .inl (cy 0, 3, .inl r)]
def TX (cy : Nat → ClassId) (q : Nat → Nat) : gX := fun k r => (TXL cy q r).getD k (.inl (0, 0, .inl r))
theorem kk_Tri : 0 < 78 := by decide
theorem ce_Tri {cy : Nat → ClassId} {q : Nat → Nat} : ∀ r, TX cy q (0) r = .inr (7, fTri q r) := fun _ => rfl
theorem kk_CompArr : 1 < 78 := by decide
theorem ce_CompArr {cy : Nat → ClassId} {q : Nat → Nat} : ∀ r, TX cy q (1) r = .inl (cy 3, 3, .inr (.inr (.inr (.inr (fun i => some (q (15+6*i))))))) := fun _ => rfl
theorem kk_SlotOut : 2 < 78 := by decide
theorem ce_SlotOut {cy : Nat → ClassId} {q : Nat → Nat} : ∀ r, TX cy q (2) r = .inl (cy 6, 2, .inr (.inr (.inr (.inr (fun i => some (q (3+i))))))) := fun _ => rfl
theorem kk_SlotIn {c : Nat} (hc : c < 2) : 3+c < 78 := by omega
theorem ce_SlotIn {cy : Nat → ClassId} {q : Nat → Nat} {c : Nat} (hc : c < 2) : ∀ r, TX cy q (3+c) r = .inl (cy 0, 3, .inl r) := fun _ => match c, hc with
  | 0, _ => rfl
  | 1, _ => rfl
theorem kk_ProgArr : 5 < 78 := by decide
theorem ce_ProgArr {cy : Nat → ClassId} {q : Nat → Nat} : ∀ r, TX cy q (5) r = .inl (cy 4, 3, .inr (.inr (.inr (.inr (fun i => some (q (39+4*i))))))) := fun _ => rfl
theorem kk_CopArr : 6 < 78 := by decide
theorem ce_CopArr {cy : Nat → ClassId} {q : Nat → Nat} : ∀ r, TX cy q (6) r = .inl (cy 5, 3, .inr (.inr (.inr (.inr (fun i => some (q (51+5*i))))))) := fun _ => rfl
theorem kk_SensArr : 7 < 78 := by decide
theorem ce_SensArr {cy : Nat → ClassId} {q : Nat → Nat} : ∀ r, TX cy q (7) r = .inl (cy 7, 4, .inr (.inr (.inr (.inr (fun i => some (q (66+i))))))) := fun _ => rfl
theorem kk_ActArr : 8 < 78 := by decide
theorem ce_ActArr {cy : Nat → ClassId} {q : Nat → Nat} : ∀ r, TX cy q (8) r = .inl (cy 8, 4, .inr (.inr (.inr (.inr (fun i => some (q (70+2*i))))))) := fun _ => rfl
theorem kk_Out {c : Nat} (hc : c < 2) : 9+c < 78 := by omega
theorem ce_Out {cy : Nat → ClassId} {q : Nat → Nat} {c : Nat} (hc : c < 2) : ∀ r, TX cy q (9+c) r = .inl (cy 0, 4, .inl r) := fun _ => match c, hc with
  | 0, _ => rfl
  | 1, _ => rfl
theorem kk_Log : 11 < 78 := by decide
theorem ce_Log {cy : Nat → ClassId} {q : Nat → Nat} : ∀ r, TX cy q (11) r = .inr (3, fLog q r) := fun _ => rfl
theorem kk_LogT : 12 < 78 := by decide
theorem ce_LogT {cy : Nat → ClassId} {q : Nat → Nat} : ∀ r, TX cy q (12) r = .inl (cy 0, 30, .inl r) := fun _ => rfl
theorem kk_LogC : 13 < 78 := by decide
theorem ce_LogC {cy : Nat → ClassId} {q : Nat → Nat} : ∀ r, TX cy q (13) r = .inl (cy 0, 30, .inl r) := fun _ => rfl
theorem kk_LogL : 14 < 78 := by decide
theorem ce_LogL {cy : Nat → ClassId} {q : Nat → Nat} : ∀ r, TX cy q (14) r = .inl (cy 2, 30, .inl r) := fun _ => rfl
theorem kk_Comp {c : Nat} (hc : c < 4) : 15+6*c < 78 := by omega
theorem ce_Comp {cy : Nat → ClassId} {q : Nat → Nat} {c : Nat} (hc : c < 4) : ∀ r, TX cy q (15+6*c) r = .inr (1, fComp q c r) := fun _ => match c, hc with
  | 0, _ => rfl
  | 1, _ => rfl
  | 2, _ => rfl
  | 3, _ => rfl
theorem kk_Mem {c : Nat} (hc : c < 4) : 16+6*c < 78 := by omega
theorem ce_Mem {cy : Nat → ClassId} {q : Nat → Nat} {c : Nat} (hc : c < 4) : ∀ r, TX cy q (16+6*c) r = .inr (4, fMem q c r) := fun _ => match c, hc with
  | 0, _ => rfl
  | 1, _ => rfl
  | 2, _ => rfl
  | 3, _ => rfl
theorem kk_Wr {c : Nat} (hc : c < 4) : 17+6*c < 78 := by omega
theorem ce_Wr {cy : Nat → ClassId} {q : Nat → Nat} {c : Nat} (hc : c < 4) : ∀ r, TX cy q (17+6*c) r = .inl (cy 0, 18, .inl r) := fun _ => match c, hc with
  | 0, _ => rfl
  | 1, _ => rfl
  | 2, _ => rfl
  | 3, _ => rfl
theorem kk_Fl {c : Nat} (hc : c < 4) : 18+6*c < 78 := by omega
theorem ce_Fl {cy : Nat → ClassId} {q : Nat → Nat} {c : Nat} (hc : c < 4) : ∀ r, TX cy q (18+6*c) r = .inl (cy 0, 18, .inl r) := fun _ => match c, hc with
  | 0, _ => rfl
  | 1, _ => rfl
  | 2, _ => rfl
  | 3, _ => rfl
theorem kk_Lies {c : Nat} (hc : c < 4) : 19+6*c < 78 := by omega
theorem ce_Lies {cy : Nat → ClassId} {q : Nat → Nat} {c : Nat} (hc : c < 4) : ∀ r, TX cy q (19+6*c) r = .inl (cy 0, 3, .inl r) := fun _ => match c, hc with
  | 0, _ => rfl
  | 1, _ => rfl
  | 2, _ => rfl
  | 3, _ => rfl
theorem kk_Regs {c : Nat} (hc : c < 4) : 20+6*c < 78 := by omega
theorem ce_Regs {cy : Nat → ClassId} {q : Nat → Nat} {c : Nat} (hc : c < 4) : ∀ r, TX cy q (20+6*c) r = .inl (cy 0, 4, .inl r) := fun _ => match c, hc with
  | 0, _ => rfl
  | 1, _ => rfl
  | 2, _ => rfl
  | 3, _ => rfl
theorem kk_Prog {c : Nat} (hc : c < 3) : 39+4*c < 78 := by omega
theorem ce_Prog {cy : Nat → ClassId} {q : Nat → Nat} {c : Nat} (hc : c < 3) : ∀ r, TX cy q (39+4*c) r = .inr (5, fProg q c r) := fun _ => match c, hc with
  | 0, _ => rfl
  | 1, _ => rfl
  | 2, _ => rfl
theorem kk_PK {c : Nat} (hc : c < 3) : 40+4*c < 78 := by omega
theorem ce_PK {cy : Nat → ClassId} {q : Nat → Nat} {c : Nat} (hc : c < 3) : ∀ r, TX cy q (40+4*c) r = .inl (cy 2, 10, .inl r) := fun _ => match c, hc with
  | 0, _ => rfl
  | 1, _ => rfl
  | 2, _ => rfl
theorem kk_PR {c : Nat} (hc : c < 3) : 41+4*c < 78 := by omega
theorem ce_PR {cy : Nat → ClassId} {q : Nat → Nat} {c : Nat} (hc : c < 3) : ∀ r, TX cy q (41+4*c) r = .inl (cy 0, 10, .inl r) := fun _ => match c, hc with
  | 0, _ => rfl
  | 1, _ => rfl
  | 2, _ => rfl
theorem kk_PN {c : Nat} (hc : c < 3) : 42+4*c < 78 := by omega
theorem ce_PN {cy : Nat → ClassId} {q : Nat → Nat} {c : Nat} (hc : c < 3) : ∀ r, TX cy q (42+4*c) r = .inl (cy 0, 10, .inl r) := fun _ => match c, hc with
  | 0, _ => rfl
  | 1, _ => rfl
  | 2, _ => rfl
theorem kk_Cop {c : Nat} (hc : c < 3) : 51+5*c < 78 := by omega
theorem ce_Cop {cy : Nat → ClassId} {q : Nat → Nat} {c : Nat} (hc : c < 3) : ∀ r, TX cy q (51+5*c) r = .inr (2, fCop q c r) := fun _ => match c, hc with
  | 0, _ => rfl
  | 1, _ => rfl
  | 2, _ => rfl
theorem kk_CW {c : Nat} (hc : c < 3) : 52+5*c < 78 := by omega
theorem ce_CW {cy : Nat → ClassId} {q : Nat → Nat} {c : Nat} (hc : c < 3) : ∀ r, TX cy q (52+5*c) r = .inl (cy 6, 2, .inr (.inr (.inr (.inr (fun i => some (q (53+5*c+i))))))) := fun _ => match c, hc with
  | 0, _ => rfl
  | 1, _ => rfl
  | 2, _ => rfl
theorem kk_CWi {c : Nat} (hc : c < 3) {d : Nat} (hd : d < 2) : 53+5*c+d < 78 := by omega
theorem ce_CWi {cy : Nat → ClassId} {q : Nat → Nat} {c : Nat} (hc : c < 3) {d : Nat} (hd : d < 2) : ∀ r, TX cy q (53+5*c+d) r = .inl (cy 0, 6, .inl r) := fun _ => match c, hc, d, hd with
  | 0, _, 0, _ => rfl
  | 0, _, 1, _ => rfl
  | 1, _, 0, _ => rfl
  | 1, _, 1, _ => rfl
  | 2, _, 0, _ => rfl
  | 2, _, 1, _ => rfl
theorem kk_CG {c : Nat} (hc : c < 3) : 55+5*c < 78 := by omega
theorem ce_CG {cy : Nat → ClassId} {q : Nat → Nat} {c : Nat} (hc : c < 3) : ∀ r, TX cy q (55+5*c) r = .inl (cy 1, 2, .inl r) := fun _ => match c, hc with
  | 0, _ => rfl
  | 1, _ => rfl
  | 2, _ => rfl
theorem kk_Sens {c : Nat} (hc : c < 4) : 66+c < 78 := by omega
theorem ce_Sens {cy : Nat → ClassId} {q : Nat → Nat} {c : Nat} (hc : c < 4) : ∀ r, TX cy q (66+c) r = .inr (6, fSens q c r) := fun _ => match c, hc with
  | 0, _ => rfl
  | 1, _ => rfl
  | 2, _ => rfl
  | 3, _ => rfl
theorem kk_Act {c : Nat} (hc : c < 4) : 70+2*c < 78 := by omega
theorem ce_Act {cy : Nat → ClassId} {q : Nat → Nat} {c : Nat} (hc : c < 4) : ∀ r, TX cy q (70+2*c) r = .inr (0, fAct q c r) := fun _ => match c, hc with
  | 0, _ => rfl
  | 1, _ => rfl
  | 2, _ => rfl
  | 3, _ => rfl
theorem kk_ActF {c : Nat} (hc : c < 4) : 71+2*c < 78 := by omega
theorem ce_ActF {cy : Nat → ClassId} {q : Nat → Nat} {c : Nat} (hc : c < 4) : ∀ r, TX cy q (71+2*c) r = .inl (cy 0, 3, .inl r) := fun _ => match c, hc with
  | 0, _ => rfl
  | 1, _ => rfl
  | 2, _ => rfl
  | 3, _ => rfl
abbrev fMod (q : Nat → Nat) (r : Nat → Int32) : List Value := [.int (r 0), .int (r 1), .int (r 2), .ref (q (1)), .ref (q (2)), .ref (q (3)), .ref (q (4)), .ref (q (5)), .ref (q (6)), .ref (q (7)), .ref (q (8)), .ref (q (9)), .ref (q (10)), .ref (q (11)), .ref (q (12)), .ref (q (13)), .ref (q (14)), .ref (q (15)), .ref (q (16)), .ref (q (17)), .ref (q (18)), .ref (q (19)), .ref (q (20)), .ref (q (21)), .ref (q (22)), .ref (q (23)), .ref (q (24)), .ref (q (25)), .ref (q (26)), .ref (q (27)), .ref (q (28)), .ref (q (29)), .ref (q (30)), .ref (q (31)), .ref (q (32)), .ref (q (33)), .ref (q (34)), .ref (q (35)), .int (r 38), .int (r 39), .ref (q (36)), .ref (q (37)), .ref (q (38)), .int (r 43)]
def MXL (cy : Nat → ClassId) (q : Nat → Nat) (r : Nat → Int32) : List va_E := [
  .inr (8, fMod q r),
  .inl (cy 2, 30, .inl r),
  .inl (cy 0, 30, .inl r),
  .inl (cy 0, 30, .inl r),
  .inl (cy 0, 3, .inl r),
  .inl (cy 0, 6, .inl r),
  .inl (cy 0, 72, .inl r),
  .inl (cy 0, 72, .inl r),
  .inl (cy 0, 16, .inl r),
  .inl (cy 0, 4, .inl r),
  .inl (cy 1, 4, .inl r),
  .inl (cy 1, 4, .inl r),
  .inl (cy 0, 4, .inl r),
  .inl (cy 0, 4, .inl r),
  .inl (cy 0, 4, .inl r),
  .inl (cy 0, 4, .inl r),
  .inl (cy 0, 4, .inl r),
  .inl (cy 0, 4, .inl r),
  .inl (cy 0, 4, .inl r),
  .inl (cy 1, 4, .inl r),
  .inl (cy 0, 4, .inl r),
  .inl (cy 0, 4, .inl r),
  .inl (cy 0, 4, .inl r),
  .inl (cy 0, 4, .inl r),
  .inl (cy 0, 3, .inl r),
  .inl (cy 0, 12, .inl r),
  .inl (cy 0, 4, .inl r),
  .inl (cy 0, 4, .inl r),
  .inl (cy 0, 4, .inl r),
  .inl (cy 0, 9, .inl r),
  .inl (cy 0, 36, .inl r),
  .inl (cy 1, 6, .inl r),
  .inl (cy 0, 3, .inl r),
  .inl (cy 0, 12, .inl r),
  .inl (cy 0, 4, .inl r),
  .inl (cy 1, 4, .inl r),
  .inl (cy 0, 30, .inl r),
  .inl (cy 0, 30, .inl r),
  .inl (cy 0, 30, .inl r)]
def MX (cy : Nat → ClassId) (q : Nat → Nat) : gX := fun k r => (MXL cy q r).getD k (.inl (0, 0, .inl r))
theorem kk_Mod : 0 < 39 := by decide
theorem ce_Mod {cy : Nat → ClassId} {q : Nat → Nat} : ∀ r, MX cy q (0) r = .inr (8, fMod q r) := fun _ => rfl
theorem kk_M_kinds : 1 < 39 := by decide
theorem ce_M_kinds {cy : Nat → ClassId} {q : Nat → Nat} : ∀ r, MX cy q (1) r = .inl (cy 2, 30, .inl r) := fun _ => rfl
theorem kk_M_coded : 2 < 39 := by decide
theorem ce_M_coded {cy : Nat → ClassId} {q : Nat → Nat} : ∀ r, MX cy q (2) r = .inl (cy 0, 30, .inl r) := fun _ => rfl
theorem kk_M_numbers : 3 < 39 := by decide
theorem ce_M_numbers {cy : Nat → ClassId} {q : Nat → Nat} : ∀ r, MX cy q (3) r = .inl (cy 0, 30, .inl r) := fun _ => rfl
theorem kk_M_sizes : 4 < 39 := by decide
theorem ce_M_sizes {cy : Nat → ClassId} {q : Nat → Nat} : ∀ r, MX cy q (4) r = .inl (cy 0, 3, .inl r) := fun _ => rfl
theorem kk_M_slots : 5 < 39 := by decide
theorem ce_M_slots {cy : Nat → ClassId} {q : Nat → Nat} : ∀ r, MX cy q (5) r = .inl (cy 0, 6, .inl r) := fun _ => rfl
theorem kk_M_words : 6 < 39 := by decide
theorem ce_M_words {cy : Nat → ClassId} {q : Nat → Nat} : ∀ r, MX cy q (6) r = .inl (cy 0, 72, .inl r) := fun _ => rfl
theorem kk_M_flips : 7 < 39 := by decide
theorem ce_M_flips {cy : Nat → ClassId} {q : Nat → Nat} : ∀ r, MX cy q (7) r = .inl (cy 0, 72, .inl r) := fun _ => rfl
theorem kk_M_registers : 8 < 39 := by decide
theorem ce_M_registers {cy : Nat → ClassId} {q : Nat → Nat} : ∀ r, MX cy q (8) r = .inl (cy 0, 16, .inl r) := fun _ => rfl
theorem kk_M_next : 9 < 39 := by decide
theorem ce_M_next {cy : Nat → ClassId} {q : Nat → Nat} : ∀ r, MX cy q (9) r = .inl (cy 0, 4, .inl r) := fun _ => rfl
theorem kk_M_isOff : 10 < 39 := by decide
theorem ce_M_isOff {cy : Nat → ClassId} {q : Nat → Nat} : ∀ r, MX cy q (10) r = .inl (cy 1, 4, .inl r) := fun _ => rfl
theorem kk_M_isTested : 11 < 39 := by decide
theorem ce_M_isTested {cy : Nat → ClassId} {q : Nat → Nat} : ∀ r, MX cy q (11) r = .inl (cy 1, 4, .inl r) := fun _ => rfl
theorem kk_M_strikes : 12 < 39 := by decide
theorem ce_M_strikes {cy : Nat → ClassId} {q : Nat → Nat} : ∀ r, MX cy q (12) r = .inl (cy 0, 4, .inl r) := fun _ => rfl
theorem kk_M_clocks : 13 < 39 := by decide
theorem ce_M_clocks {cy : Nat → ClassId} {q : Nat → Nat} : ∀ r, MX cy q (13) r = .inl (cy 0, 4, .inl r) := fun _ => rfl
theorem kk_M_told : 14 < 39 := by decide
theorem ce_M_told {cy : Nat → ClassId} {q : Nat → Nat} : ∀ r, MX cy q (14) r = .inl (cy 0, 4, .inl r) := fun _ => rfl
theorem kk_M_drifts : 15 < 39 := by decide
theorem ce_M_drifts {cy : Nat → ClassId} {q : Nat → Nat} : ∀ r, MX cy q (15) r = .inl (cy 0, 4, .inl r) := fun _ => rfl
theorem kk_M_mended : 16 < 39 := by decide
theorem ce_M_mended {cy : Nat → ClassId} {q : Nat → Nat} : ∀ r, MX cy q (16) r = .inl (cy 0, 4, .inl r) := fun _ => rfl
theorem kk_M_stuck : 17 < 39 := by decide
theorem ce_M_stuck {cy : Nat → ClassId} {q : Nat → Nat} : ∀ r, MX cy q (17) r = .inl (cy 0, 4, .inl r) := fun _ => rfl
theorem kk_M_stuckBit : 18 < 39 := by decide
theorem ce_M_stuckBit {cy : Nat → ClassId} {q : Nat → Nat} : ∀ r, MX cy q (18) r = .inl (cy 0, 4, .inl r) := fun _ => rfl
theorem kk_M_isStuckSet : 19 < 39 := by decide
theorem ce_M_isStuckSet {cy : Nat → ClassId} {q : Nat → Nat} : ∀ r, MX cy q (19) r = .inl (cy 1, 4, .inl r) := fun _ => rfl
theorem kk_M_given : 20 < 39 := by decide
theorem ce_M_given {cy : Nat → ClassId} {q : Nat → Nat} : ∀ r, MX cy q (20) r = .inl (cy 0, 4, .inl r) := fun _ => rfl
theorem kk_M_value : 21 < 39 := by decide
theorem ce_M_value {cy : Nat → ClassId} {q : Nat → Nat} : ∀ r, MX cy q (21) r = .inl (cy 0, 4, .inl r) := fun _ => rfl
theorem kk_M_outputs : 22 < 39 := by decide
theorem ce_M_outputs {cy : Nat → ClassId} {q : Nat → Nat} : ∀ r, MX cy q (22) r = .inl (cy 0, 4, .inl r) := fun _ => rfl
theorem kk_M_plainOutputs : 23 < 39 := by decide
theorem ce_M_plainOutputs {cy : Nat → ClassId} {q : Nat → Nat} : ∀ r, MX cy q (23) r = .inl (cy 0, 4, .inl r) := fun _ => rfl
theorem kk_M_overruns : 24 < 39 := by decide
theorem ce_M_overruns {cy : Nat → ClassId} {q : Nat → Nat} : ∀ r, MX cy q (24) r = .inl (cy 0, 3, .inl r) := fun _ => rfl
theorem kk_M_readings : 25 < 39 := by decide
theorem ce_M_readings {cy : Nat → ClassId} {q : Nat → Nat} : ∀ r, MX cy q (25) r = .inl (cy 0, 12, .inl r) := fun _ => rfl
theorem kk_M_lessLimits : 26 < 39 := by decide
theorem ce_M_lessLimits {cy : Nat → ClassId} {q : Nat → Nat} : ∀ r, MX cy q (26) r = .inl (cy 0, 4, .inl r) := fun _ => rfl
theorem kk_M_agreed : 27 < 39 := by decide
theorem ce_M_agreed {cy : Nat → ClassId} {q : Nat → Nat} : ∀ r, MX cy q (27) r = .inl (cy 0, 4, .inl r) := fun _ => rfl
theorem kk_M_refused : 28 < 39 := by decide
theorem ce_M_refused {cy : Nat → ClassId} {q : Nat → Nat} : ∀ r, MX cy q (28) r = .inl (cy 0, 4, .inl r) := fun _ => rfl
theorem kk_M_lies : 29 < 39 := by decide
theorem ce_M_lies {cy : Nat → ClassId} {q : Nat → Nat} : ∀ r, MX cy q (29) r = .inl (cy 0, 9, .inl r) := fun _ => rfl
theorem kk_M_copies : 30 < 39 := by decide
theorem ce_M_copies {cy : Nat → ClassId} {q : Nat → Nat} : ∀ r, MX cy q (30) r = .inl (cy 0, 36, .inl r) := fun _ => rfl
theorem kk_M_isGood : 31 < 39 := by decide
theorem ce_M_isGood {cy : Nat → ClassId} {q : Nat → Nat} : ∀ r, MX cy q (31) r = .inl (cy 1, 6, .inl r) := fun _ => rfl
theorem kk_M_newest : 32 < 39 := by decide
theorem ce_M_newest {cy : Nat → ClassId} {q : Nat → Nat} : ∀ r, MX cy q (32) r = .inl (cy 0, 3, .inl r) := fun _ => rfl
theorem kk_M_faults : 33 < 39 := by decide
theorem ce_M_faults {cy : Nat → ClassId} {q : Nat → Nat} : ∀ r, MX cy q (33) r = .inl (cy 0, 12, .inl r) := fun _ => rfl
theorem kk_M_positions : 34 < 39 := by decide
theorem ce_M_positions {cy : Nat → ClassId} {q : Nat → Nat} : ∀ r, MX cy q (34) r = .inl (cy 0, 4, .inl r) := fun _ => rfl
theorem kk_M_hasLetGo : 35 < 39 := by decide
theorem ce_M_hasLetGo {cy : Nat → ClassId} {q : Nat → Nat} : ∀ r, MX cy q (35) r = .inl (cy 1, 4, .inl r) := fun _ => rfl
theorem kk_M_lineTimes : 36 < 39 := by decide
theorem ce_M_lineTimes {cy : Nat → ClassId} {q : Nat → Nat} : ∀ r, MX cy q (36) r = .inl (cy 0, 30, .inl r) := fun _ => rfl
theorem kk_M_lineComputers : 37 < 39 := by decide
theorem ce_M_lineComputers {cy : Nat → ClassId} {q : Nat → Nat} : ∀ r, MX cy q (37) r = .inl (cy 0, 30, .inl r) := fun _ => rfl
theorem kk_M_lineLetters : 38 < 39 := by decide
theorem ce_M_lineLetters {cy : Nat → ClassId} {q : Nat → Nat} : ∀ r, MX cy q (38) r = .inl (cy 0, 30, .inl r) := fun _ => rfl
