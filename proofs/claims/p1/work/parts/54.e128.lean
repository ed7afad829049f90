/-! ===== a fresh store of 128 blocks: closed runs by the kernel; written by wip/gen/p1gen.py ===== -/
set_option maxRecDepth 1000000 in
theorem eC10_128 : chkR 0 225 (runB (0, fun _ => 0) 400000 1998 mr_166 0 (lv_args 0 [.ref 1]) [] hp128i 0 0) = true := by decide +kernel
set_option maxRecDepth 1000000 in
theorem eM10_128 : chkM 0 225 (runB (0, fun _ => 0) 400000 1999 mr_275 0 (lv_args 0 [.ref 196]) [] hp128i 0 0) = true := by decide +kernel
set_option maxRecDepth 1000000 in
theorem eC12_128 : chkR 0 225 (runB (0, fun _ => 0) 400000 1998 mr_173 0 (lv_args 0 [.ref 1]) [] hp128i 0 0) = true := by decide +kernel
set_option maxRecDepth 1000000 in
theorem eM12_128 : chkM 0 225 (runB (0, fun _ => 0) 400000 1999 mr_280 0 (lv_args 0 [.ref 196]) [] hp128i 0 0) = true := by decide +kernel
set_option maxRecDepth 1000000 in
theorem eC14_128 : chkR 0 225 (runB (0, fun _ => 0) 400000 1998 mr_178 0 (lv_args 0 [.ref 1]) [] hp128i 0 0) = true := by decide +kernel
set_option maxRecDepth 1000000 in
theorem eM14_128 : chkM 0 225 (runB (0, fun _ => 0) 400000 1999 mr_268 0 (lv_args 0 [.ref 196]) [] hp128i 0 0) = true := by decide +kernel
set_option maxRecDepth 1000000 in
theorem eC18_128 : chkR 0 225 (runB (0, fun _ => 0) 400000 1998 mr_202 0 (lv_args 0 [.ref 1]) [] hp128i 0 0) = true := by decide +kernel
set_option maxRecDepth 1000000 in
theorem eM18_128 : chkM 0 225 (runB (0, fun _ => 0) 400000 1999 mr_303 0 (lv_args 0 [.ref 196]) [] hp128i 0 0) = true := by decide +kernel
set_option maxRecDepth 1000000 in
theorem eC11_0_128 : chkR 0 225 (runB (0, fun _ => 0) 400000 1998 mr_169 0 (lv_args 0 [.ref 1, .int 0]) [] hp128i 0 0) = true := by decide +kernel
set_option maxRecDepth 1000000 in
theorem eM11_0_128 : chkM 0 225 (runB (0, fun _ => 0) 400000 1999 mr_279 0 (lv_args 0 [.ref 196, .int 0]) [] hp128i 0 0) = true := by decide +kernel
set_option maxRecDepth 1000000 in
theorem eC11_1_128 : chkR 0 225 (runB (0, fun _ => 0) 400000 1998 mr_169 0 (lv_args 0 [.ref 1, .int 1]) [] hp128i 0 0) = true := by decide +kernel
set_option maxRecDepth 1000000 in
theorem eM11_1_128 : chkM 0 225 (runB (0, fun _ => 0) 400000 1999 mr_279 0 (lv_args 0 [.ref 196, .int 1]) [] hp128i 0 0) = true := by decide +kernel
set_option maxRecDepth 1000000 in
theorem eC16_0_128 : chkR 0 225 (runB (0, fun _ => 0) 400000 1998 mr_196 0 (lv_args 0 [.ref 1, .int (nI 0)]) [] hp128i 0 0) = true := by decide +kernel
set_option maxRecDepth 1000000 in
theorem eM16_0_128 : chkM 0 225 (runB (0, fun _ => 0) 400000 1999 mr_300 0 (lv_args 0 [.ref 196, .int (nI 0)]) [] hp128i 0 0) = true := by decide +kernel
set_option maxRecDepth 1000000 in
theorem eC16_1_128 : chkR 1 225 (runB (0, fun _ => 0) 400000 1998 mr_196 0 (lv_args 0 [.ref 1, .int (nI 1)]) [] hp128i 0 0) = true := by decide +kernel
set_option maxRecDepth 1000000 in
theorem eM16_1_128 : chkM 1 225 (runB (0, fun _ => 0) 400000 1999 mr_300 0 (lv_args 0 [.ref 196, .int (nI 1)]) [] hp128i 0 0) = true := by decide +kernel
set_option maxRecDepth 1000000 in
theorem eC16_2_128 : chkR 0 225 (runB (0, fun _ => 0) 400000 1998 mr_196 0 (lv_args 0 [.ref 1, .int (nI 2)]) [] hp128i 0 0) = true := by decide +kernel
set_option maxRecDepth 1000000 in
theorem eM16_2_128 : chkM 0 225 (runB (0, fun _ => 0) 400000 1999 mr_300 0 (lv_args 0 [.ref 196, .int (nI 2)]) [] hp128i 0 0) = true := by decide +kernel
set_option maxRecDepth 1000000 in
theorem eC16_3_128 : chkR 0 225 (runB (0, fun _ => 0) 400000 1998 mr_196 0 (lv_args 0 [.ref 1, .int (nI 3)]) [] hp128i 0 0) = true := by decide +kernel
set_option maxRecDepth 1000000 in
theorem eM16_3_128 : chkM 0 225 (runB (0, fun _ => 0) 400000 1999 mr_300 0 (lv_args 0 [.ref 196, .int (nI 3)]) [] hp128i 0 0) = true := by decide +kernel
set_option maxRecDepth 1000000 in
theorem eC16_4_128 : chkR 32768 225 (runB (0, fun _ => 0) 400000 1998 mr_196 0 (lv_args 0 [.ref 1, .int (nI 4)]) [] hp128i 0 0) = true := by decide +kernel
set_option maxRecDepth 1000000 in
theorem eM16_4_128 : chkM 32768 225 (runB (0, fun _ => 0) 400000 1999 mr_300 0 (lv_args 0 [.ref 196, .int (nI 4)]) [] hp128i 0 0) = true := by decide +kernel
set_option maxRecDepth 1000000 in
theorem eC16_5_128 : chkR 0 225 (runB (0, fun _ => 0) 400000 1998 mr_196 0 (lv_args 0 [.ref 1, .int (nI 5)]) [] hp128i 0 0) = true := by decide +kernel
set_option maxRecDepth 1000000 in
theorem eM16_5_128 : chkM 0 225 (runB (0, fun _ => 0) 400000 1999 mr_300 0 (lv_args 0 [.ref 196, .int (nI 5)]) [] hp128i 0 0) = true := by decide +kernel
set_option maxRecDepth 1000000 in
theorem eC16_6_128 : chkR 0 225 (runB (0, fun _ => 0) 400000 1998 mr_196 0 (lv_args 0 [.ref 1, .int (nI 6)]) [] hp128i 0 0) = true := by decide +kernel
set_option maxRecDepth 1000000 in
theorem eM16_6_128 : chkM 0 225 (runB (0, fun _ => 0) 400000 1999 mr_300 0 (lv_args 0 [.ref 196, .int (nI 6)]) [] hp128i 0 0) = true := by decide +kernel
set_option maxRecDepth 1000000 in
theorem eC16_7_128 : chkR 0 225 (runB (0, fun _ => 0) 400000 1998 mr_196 0 (lv_args 0 [.ref 1, .int (nI 7)]) [] hp128i 0 0) = true := by decide +kernel
set_option maxRecDepth 1000000 in
theorem eM16_7_128 : chkM 0 225 (runB (0, fun _ => 0) 400000 1999 mr_300 0 (lv_args 0 [.ref 196, .int (nI 7)]) [] hp128i 0 0) = true := by decide +kernel
set_option maxRecDepth 1000000 in
theorem eC16_8_128 : chkR 0 225 (runB (0, fun _ => 0) 400000 1998 mr_196 0 (lv_args 0 [.ref 1, .int (nI 8)]) [] hp128i 0 0) = true := by decide +kernel
set_option maxRecDepth 1000000 in
theorem eM16_8_128 : chkM 0 225 (runB (0, fun _ => 0) 400000 1999 mr_300 0 (lv_args 0 [.ref 196, .int (nI 8)]) [] hp128i 0 0) = true := by decide +kernel
set_option maxRecDepth 1000000 in
theorem eC16_9_128 : chkR 0 225 (runB (0, fun _ => 0) 400000 1998 mr_196 0 (lv_args 0 [.ref 1, .int (nI 9)]) [] hp128i 0 0) = true := by decide +kernel
set_option maxRecDepth 1000000 in
theorem eM16_9_128 : chkM 0 225 (runB (0, fun _ => 0) 400000 1999 mr_300 0 (lv_args 0 [.ref 196, .int (nI 9)]) [] hp128i 0 0) = true := by decide +kernel
set_option maxRecDepth 1000000 in
theorem eC27_0_128 : chkR 2 225 (runB (0, fun _ => 0) 400000 1998 mr_257 0 (lv_args 0 [.ref 1, .int (nI 0), .int (nI 0)]) [] hp128i 0 0) = true := by decide +kernel
set_option maxRecDepth 1000000 in
theorem eM27_0_128 : chkM 2 225 (runB (0, fun _ => 0) 400000 1999 mr_330 0 (lv_args 0 [.ref 196, .int (nI 0), .int (nI 0)]) [] hp128i 0 0) = true := by decide +kernel
set_option maxRecDepth 1000000 in
theorem eC27_1_128 : chkR 0 225 (runB (0, fun _ => 0) 400000 1998 mr_257 0 (lv_args 0 [.ref 1, .int (nI 0), .int (nI 1)]) [] hp128i 0 0) = true := by decide +kernel
set_option maxRecDepth 1000000 in
theorem eM27_1_128 : chkM 0 225 (runB (0, fun _ => 0) 400000 1999 mr_330 0 (lv_args 0 [.ref 196, .int (nI 0), .int (nI 1)]) [] hp128i 0 0) = true := by decide +kernel
set_option maxRecDepth 1000000 in
theorem eC27_2_128 : chkR 0 225 (runB (0, fun _ => 0) 400000 1998 mr_257 0 (lv_args 0 [.ref 1, .int (nI 0), .int (nI 2)]) [] hp128i 0 0) = true := by decide +kernel
set_option maxRecDepth 1000000 in
theorem eM27_2_128 : chkM 0 225 (runB (0, fun _ => 0) 400000 1999 mr_330 0 (lv_args 0 [.ref 196, .int (nI 0), .int (nI 2)]) [] hp128i 0 0) = true := by decide +kernel
set_option maxRecDepth 1000000 in
theorem eC27_3_128 : chkR 0 225 (runB (0, fun _ => 0) 400000 1998 mr_257 0 (lv_args 0 [.ref 1, .int (nI 0), .int (nI 3)]) [] hp128i 0 0) = true := by decide +kernel
set_option maxRecDepth 1000000 in
theorem eM27_3_128 : chkM 0 225 (runB (0, fun _ => 0) 400000 1999 mr_330 0 (lv_args 0 [.ref 196, .int (nI 0), .int (nI 3)]) [] hp128i 0 0) = true := by decide +kernel
