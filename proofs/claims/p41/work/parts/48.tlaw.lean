/-! ===== the law: what a fresh Triplane answers ===== -/
set_option maxRecDepth 100000 in
theorem tl_54 : sX8_code ((3 : Int32)) (lchr ((108 : Int32))) ((0 : Int32)) ((0 : Int32)) T0 = some (.inr 1, T0) := rfl
set_option maxRecDepth 100000 in
theorem tl_85 : sX8_code ((0 : Int32)) (lchr ((120 : Int32))) ((0 : Int32)) ((0 : Int32)) T0 = some (.inr 2, T0) := rfl
set_option maxRecDepth 100000 in
theorem tl_116 : sX8_code ((0 : Int32)) (lchr ((108 : Int32))) ((0 : Int32)) ((32768 : Int32)) T0 = some (.inr 2, T0) := rfl
set_option maxRecDepth 100000 in
theorem tl_148 : sX8_code ((0 : Int32)) (lchr ((114 : Int32))) ((0 : Int32)) ((6 : Int32)) T0 = some (.inr 2, T0) := rfl
set_option maxRecDepth 100000 in
theorem tl_180 : sX8_code ((0 : Int32)) (lchr ((111 : Int32))) ((4 : Int32)) ((0 : Int32)) T0 = some (.inr 2, T0) := rfl
set_option maxRecDepth 100000 in
theorem tl_211 : sX8_clear ((-1 : Int32)) T0 = some (.inr 1, T0) := rfl
set_option maxRecDepth 100000 in
theorem tl_229 : sX8_slot ((2 : Int32)) ((0 : Int32)) ((0 : Int32)) T0 = some (.inr 1, T0) := rfl
set_option maxRecDepth 100000 in
theorem tl_255 : sX8_slot ((0 : Int32)) ((3 : Int32)) ((0 : Int32)) T0 = some (.inr 1, T0) := rfl
set_option maxRecDepth 100000 in
theorem tl_281 : sX8_slot ((0 : Int32)) ((0 : Int32)) ((3 : Int32)) T0 = some (.inr 1, T0) := rfl
set_option maxRecDepth 100000 in
theorem tl_307 : sX8_output ((4 : Int32)) T0 = some (.inr 1, T0) := rfl
set_option maxRecDepth 100000 in
theorem tl_325 : sX8_plain ((-1 : Int32)) T0 = some (.inr 1, T0) := rfl
set_option maxRecDepth 100000 in
theorem tl_343 : sX8_word ((0 : Int32)) ((0 : Int32)) ((6 : Int32)) T0 = some (.inr 1, T0) := rfl
set_option maxRecDepth 100000 in
theorem tl_370 : sX8_flip ((0 : Int32)) ((0 : Int32)) ((0 : Int32)) ((16 : Int32)) T0 = some (.inr 1, T0) := rfl
set_option maxRecDepth 100000 in
theorem tl_401 : sX8_stick ((0 : Int32)) ((4 : Int32)) ((0 : Int32)) (if ((0 : Int32)) = 1 then 1 else 0) T0 = some (.inr 1, T0) := rfl
set_option maxRecDepth 100000 in
theorem tl_431 : sX8_fix ((3 : Int32)) T0 = some (.inr 1, T0) := rfl
set_option maxRecDepth 100000 in
theorem tl_449 : sX8_isOn ((3 : Int32)) T0 = some (.inr 1, T0) := rfl
set_option maxRecDepth 100000 in
theorem tl_467 : sX8_strikes ((3 : Int32)) T0 = some (.inr 1, T0) := rfl
set_option maxRecDepth 100000 in
theorem tl_485 : sX8_shut ((3 : Int32)) T0 = some (.inr 1, T0) := rfl
set_option maxRecDepth 100000 in
theorem tl_503 : sX8_test ((3 : Int32)) T0 = some (.inr 1, T0) := rfl
set_option maxRecDepth 100000 in
theorem tl_521 : sX8_test ((0 : Int32)) T0 = some (.inr 4, T0) := rfl
set_option maxRecDepth 100000 in
theorem tl_539 : sX8_back ((0 : Int32)) T0 = some (.inr 4, T0) := rfl
set_option maxRecDepth 100000 in
theorem tl_557 : sX8_mended ((3 : Int32)) T0 = some (.inr 1, T0) := rfl
set_option maxRecDepth 100000 in
theorem tl_575 : sX8_overruns ((3 : Int32)) T0 = some (.inr 1, T0) := rfl
set_option maxRecDepth 100000 in
theorem tl_593 : sX8_read ((4 : Int32)) ((0 : Int32)) ((0 : Int32)) ((0 : Int32)) T0 = some (.inr 1, T0) := rfl
set_option maxRecDepth 100000 in
theorem tl_623 : sX8_read ((0 : Int32)) ((0 : Int32)) ((0 : Int32)) ((40000 : Int32)) T0 = some (.inr 2, T0) := rfl
set_option maxRecDepth 100000 in
theorem tl_654 : sX8_limit ((0 : Int32)) ((-1 : Int32)) T0 = some (.inr 2, T0) := rfl
set_option maxRecDepth 100000 in
theorem tl_676 : sX8_agreed ((4 : Int32)) T0 = some (.inr 1, T0) := rfl
set_option maxRecDepth 100000 in
theorem tl_694 : sX8_lie ((0 : Int32)) ((0 : Int32)) ((0 : Int32)) T0 = some (.inr 2, T0) := rfl
set_option maxRecDepth 100000 in
theorem tl_720 : sX8_lie ((0 : Int32)) ((3 : Int32)) ((0 : Int32)) T0 = some (.inr 1, T0) := rfl
set_option maxRecDepth 100000 in
theorem tl_746 : sX8_clock ((3 : Int32)) T0 = some (.inr 1, T0) := rfl
set_option maxRecDepth 100000 in
theorem tl_764 : sX8_save ((3 : Int32)) (if ((0 : Int32)) = 1 then 1 else 0) T0 = some (.inr 1, T0) := rfl
set_option maxRecDepth 100000 in
theorem tl_786 : sX8_load ((0 : Int32)) T0 = some (.inr 5, T0) := rfl
set_option maxRecDepth 100000 in
theorem tl_804 : sX8_fault ((0 : Int32)) ((3 : Int32)) ((0 : Int32)) T0 = some (.inr 1, T0) := rfl
set_option maxRecDepth 100000 in
theorem tl_830 : sX8_position ((4 : Int32)) T0 = some (.inr 1, T0) := rfl
set_option maxRecDepth 100000 in
theorem tl_848 : sX8_hasLetGo ((4 : Int32)) T0 = some (.inr 1, T0) := rfl
set_option maxRecDepth 100000 in
theorem tl_866 : sX8_arm (lchr ((120 : Int32))) T0 = some (.inr 2, T0) := rfl
set_option maxRecDepth 100000 in
theorem tl_885 : sX8_give (lchr ((97 : Int32))) T0 = some (.inr 4, T0) := rfl
set_option maxRecDepth 100000 in
theorem tl_904 : sX8_line ((0 : Int32)) (lchr ((116 : Int32))) T0 = some (.inr 5, T0) := rfl
theorem tl_time : sX8_time T0 = some (0, T0) := rfl
theorem tl_mode : sX8_mode T0 = some (0, T0) := rfl
theorem tl_plain : sX8_isPlain T0 = some (1, T0) := k_plain FL_0.2.2.2.2.1
theorem tl_true : sX8_isTrue T0 = some (1, T0) := FL_true FL_0
theorem tl_mean : sX8_meanOutput T0 = some (FP.ddiv (FP.i2d 0) 4616189618054758400, T0) := by
  have hk : dok (FP.ddiv (FP.i2d 0) 4616189618054758400) = true := by decide +kernel
  have h : sX8_meanOutput T0 = (if dok (FP.ddiv (FP.i2d 0) 4616189618054758400) = true then some (FP.ddiv (FP.i2d 0) 4616189618054758400, T0) else none) := rfl
  rw [h, if_pos hk]
theorem tl_share : sX8_onShare T0 = some (FP.fdiv (FP.i2f (nI 3)) 1077936128, T0) := by
  unfold sX8_onShare sX8_onShare_0
  rw [c_on, onb_3 (fun c hc => by rw [t0_6 c hc]; decide), Option.bind_some]
  unfold sX8_onShare_4
  exact if_pos (by decide +kernel)
