/-! ===== a fresh store of 96 blocks: closed runs by the kernel; written by wip/gen/p1gen.py ===== -/
set_option maxRecDepth 1000000 in
theorem eC10_96 : chkR 0 225 (runB (0, fun _ => 0) 400000 1998 mr_166 0 (lv_args 0 [.ref 1]) [] hp96i 0 0) = true := by decide +kernel
set_option maxRecDepth 1000000 in
theorem eM10_96 : chkM 0 225 (runB (0, fun _ => 0) 400000 1999 mr_275 0 (lv_args 0 [.ref 196]) [] hp96i 0 0) = true := by decide +kernel
set_option maxRecDepth 1000000 in
theorem eC12_96 : chkR 0 225 (runB (0, fun _ => 0) 400000 1998 mr_173 0 (lv_args 0 [.ref 1]) [] hp96i 0 0) = true := by decide +kernel
set_option maxRecDepth 1000000 in
theorem eM12_96 : chkM 0 225 (runB (0, fun _ => 0) 400000 1999 mr_280 0 (lv_args 0 [.ref 196]) [] hp96i 0 0) = true := by decide +kernel
set_option maxRecDepth 1000000 in
theorem eC14_96 : chkR 0 225 (runB (0, fun _ => 0) 400000 1998 mr_178 0 (lv_args 0 [.ref 1]) [] hp96i 0 0) = true := by decide +kernel
set_option maxRecDepth 1000000 in
theorem eM14_96 : chkM 0 225 (runB (0, fun _ => 0) 400000 1999 mr_268 0 (lv_args 0 [.ref 196]) [] hp96i 0 0) = true := by decide +kernel
set_option maxRecDepth 1000000 in
theorem eC18_96 : chkR 0 225 (runB (0, fun _ => 0) 400000 1998 mr_202 0 (lv_args 0 [.ref 1]) [] hp96i 0 0) = true := by decide +kernel
set_option maxRecDepth 1000000 in
theorem eM18_96 : chkM 0 225 (runB (0, fun _ => 0) 400000 1999 mr_303 0 (lv_args 0 [.ref 196]) [] hp96i 0 0) = true := by decide +kernel
set_option maxRecDepth 1000000 in
theorem eC11_0_96 : chkR 0 225 (runB (0, fun _ => 0) 400000 1998 mr_169 0 (lv_args 0 [.ref 1, .int 0]) [] hp96i 0 0) = true := by decide +kernel
set_option maxRecDepth 1000000 in
theorem eM11_0_96 : chkM 0 225 (runB (0, fun _ => 0) 400000 1999 mr_279 0 (lv_args 0 [.ref 196, .int 0]) [] hp96i 0 0) = true := by decide +kernel
set_option maxRecDepth 1000000 in
theorem eC11_1_96 : chkR 0 225 (runB (0, fun _ => 0) 400000 1998 mr_169 0 (lv_args 0 [.ref 1, .int 1]) [] hp96i 0 0) = true := by decide +kernel
set_option maxRecDepth 1000000 in
theorem eM11_1_96 : chkM 0 225 (runB (0, fun _ => 0) 400000 1999 mr_279 0 (lv_args 0 [.ref 196, .int 1]) [] hp96i 0 0) = true := by decide +kernel
set_option maxRecDepth 1000000 in
theorem eC16_0_96 : chkR 0 225 (runB (0, fun _ => 0) 400000 1998 mr_196 0 (lv_args 0 [.ref 1, .int (nI 0)]) [] hp96i 0 0) = true := by decide +kernel
set_option maxRecDepth 1000000 in
theorem eM16_0_96 : chkM 0 225 (runB (0, fun _ => 0) 400000 1999 mr_300 0 (lv_args 0 [.ref 196, .int (nI 0)]) [] hp96i 0 0) = true := by decide +kernel
set_option maxRecDepth 1000000 in
theorem eC16_1_96 : chkR 1 225 (runB (0, fun _ => 0) 400000 1998 mr_196 0 (lv_args 0 [.ref 1, .int (nI 1)]) [] hp96i 0 0) = true := by decide +kernel
set_option maxRecDepth 1000000 in
theorem eM16_1_96 : chkM 1 225 (runB (0, fun _ => 0) 400000 1999 mr_300 0 (lv_args 0 [.ref 196, .int (nI 1)]) [] hp96i 0 0) = true := by decide +kernel
set_option maxRecDepth 1000000 in
theorem eC16_2_96 : chkR 0 225 (runB (0, fun _ => 0) 400000 1998 mr_196 0 (lv_args 0 [.ref 1, .int (nI 2)]) [] hp96i 0 0) = true := by decide +kernel
set_option maxRecDepth 1000000 in
theorem eM16_2_96 : chkM 0 225 (runB (0, fun _ => 0) 400000 1999 mr_300 0 (lv_args 0 [.ref 196, .int (nI 2)]) [] hp96i 0 0) = true := by decide +kernel
set_option maxRecDepth 1000000 in
theorem eC16_3_96 : chkR 0 225 (runB (0, fun _ => 0) 400000 1998 mr_196 0 (lv_args 0 [.ref 1, .int (nI 3)]) [] hp96i 0 0) = true := by decide +kernel
set_option maxRecDepth 1000000 in
theorem eM16_3_96 : chkM 0 225 (runB (0, fun _ => 0) 400000 1999 mr_300 0 (lv_args 0 [.ref 196, .int (nI 3)]) [] hp96i 0 0) = true := by decide +kernel
set_option maxRecDepth 1000000 in
theorem eC16_4_96 : chkR 24576 225 (runB (0, fun _ => 0) 400000 1998 mr_196 0 (lv_args 0 [.ref 1, .int (nI 4)]) [] hp96i 0 0) = true := by decide +kernel
set_option maxRecDepth 1000000 in
theorem eM16_4_96 : chkM 24576 225 (runB (0, fun _ => 0) 400000 1999 mr_300 0 (lv_args 0 [.ref 196, .int (nI 4)]) [] hp96i 0 0) = true := by decide +kernel
set_option maxRecDepth 1000000 in
theorem eC16_5_96 : chkR 0 225 (runB (0, fun _ => 0) 400000 1998 mr_196 0 (lv_args 0 [.ref 1, .int (nI 5)]) [] hp96i 0 0) = true := by decide +kernel
set_option maxRecDepth 1000000 in
theorem eM16_5_96 : chkM 0 225 (runB (0, fun _ => 0) 400000 1999 mr_300 0 (lv_args 0 [.ref 196, .int (nI 5)]) [] hp96i 0 0) = true := by decide +kernel
set_option maxRecDepth 1000000 in
theorem eC16_6_96 : chkR 0 225 (runB (0, fun _ => 0) 400000 1998 mr_196 0 (lv_args 0 [.ref 1, .int (nI 6)]) [] hp96i 0 0) = true := by decide +kernel
set_option maxRecDepth 1000000 in
theorem eM16_6_96 : chkM 0 225 (runB (0, fun _ => 0) 400000 1999 mr_300 0 (lv_args 0 [.ref 196, .int (nI 6)]) [] hp96i 0 0) = true := by decide +kernel
set_option maxRecDepth 1000000 in
theorem eC16_7_96 : chkR 0 225 (runB (0, fun _ => 0) 400000 1998 mr_196 0 (lv_args 0 [.ref 1, .int (nI 7)]) [] hp96i 0 0) = true := by decide +kernel
set_option maxRecDepth 1000000 in
theorem eM16_7_96 : chkM 0 225 (runB (0, fun _ => 0) 400000 1999 mr_300 0 (lv_args 0 [.ref 196, .int (nI 7)]) [] hp96i 0 0) = true := by decide +kernel
set_option maxRecDepth 1000000 in
theorem eC16_8_96 : chkR 0 225 (runB (0, fun _ => 0) 400000 1998 mr_196 0 (lv_args 0 [.ref 1, .int (nI 8)]) [] hp96i 0 0) = true := by decide +kernel
set_option maxRecDepth 1000000 in
theorem eM16_8_96 : chkM 0 225 (runB (0, fun _ => 0) 400000 1999 mr_300 0 (lv_args 0 [.ref 196, .int (nI 8)]) [] hp96i 0 0) = true := by decide +kernel
set_option maxRecDepth 1000000 in
theorem eC16_9_96 : chkR 0 225 (runB (0, fun _ => 0) 400000 1998 mr_196 0 (lv_args 0 [.ref 1, .int (nI 9)]) [] hp96i 0 0) = true := by decide +kernel
set_option maxRecDepth 1000000 in
theorem eM16_9_96 : chkM 0 225 (runB (0, fun _ => 0) 400000 1999 mr_300 0 (lv_args 0 [.ref 196, .int (nI 9)]) [] hp96i 0 0) = true := by decide +kernel
set_option maxRecDepth 1000000 in
theorem eC27_0_96 : chkR 2 225 (runB (0, fun _ => 0) 400000 1998 mr_257 0 (lv_args 0 [.ref 1, .int (nI 0), .int (nI 0)]) [] hp96i 0 0) = true := by decide +kernel
set_option maxRecDepth 1000000 in
theorem eM27_0_96 : chkM 2 225 (runB (0, fun _ => 0) 400000 1999 mr_330 0 (lv_args 0 [.ref 196, .int (nI 0), .int (nI 0)]) [] hp96i 0 0) = true := by decide +kernel
set_option maxRecDepth 1000000 in
theorem eC27_1_96 : chkR 0 225 (runB (0, fun _ => 0) 400000 1998 mr_257 0 (lv_args 0 [.ref 1, .int (nI 0), .int (nI 1)]) [] hp96i 0 0) = true := by decide +kernel
set_option maxRecDepth 1000000 in
theorem eM27_1_96 : chkM 0 225 (runB (0, fun _ => 0) 400000 1999 mr_330 0 (lv_args 0 [.ref 196, .int (nI 0), .int (nI 1)]) [] hp96i 0 0) = true := by decide +kernel
set_option maxRecDepth 1000000 in
theorem eC27_2_96 : chkR 0 225 (runB (0, fun _ => 0) 400000 1998 mr_257 0 (lv_args 0 [.ref 1, .int (nI 0), .int (nI 2)]) [] hp96i 0 0) = true := by decide +kernel
set_option maxRecDepth 1000000 in
theorem eM27_2_96 : chkM 0 225 (runB (0, fun _ => 0) 400000 1999 mr_330 0 (lv_args 0 [.ref 196, .int (nI 0), .int (nI 2)]) [] hp96i 0 0) = true := by decide +kernel
set_option maxRecDepth 1000000 in
theorem eC27_3_96 : chkR 0 225 (runB (0, fun _ => 0) 400000 1998 mr_257 0 (lv_args 0 [.ref 1, .int (nI 0), .int (nI 3)]) [] hp96i 0 0) = true := by decide +kernel
set_option maxRecDepth 1000000 in
theorem eM27_3_96 : chkM 0 225 (runB (0, fun _ => 0) 400000 1999 mr_330 0 (lv_args 0 [.ref 196, .int (nI 0), .int (nI 3)]) [] hp96i 0 0) = true := by decide +kernel
