/-! the check of the law, by pieces -/
theorem okl_0 : (List.range' 0 64).all (okMi 197) = true := by decide +kernel
theorem okl_1 : (List.range' 64 64).all (okMi 197) = true := by decide +kernel
theorem okl_2 : (List.range' 128 64).all (okMi 197) = true := by decide +kernel
theorem okl_3 : (List.range' 192 64).all (okMi 197) = true := by decide +kernel
theorem okl_4 : (List.range' 256 64).all (okMi 197) = true := by decide +kernel
theorem okl_5 : (List.range' 320 64).all (okMi 197) = true := by decide +kernel
theorem okl_6 : (List.range' 384 64).all (okMi 197) = true := by decide +kernel
theorem okl_7 : (List.range' 448 64).all (okMi 197) = true := by decide +kernel
theorem okl_8 : (List.range' 512 64).all (okMi 197) = true := by decide +kernel
theorem okl_9 : (List.range' 576 64).all (okMi 197) = true := by decide +kernel
theorem okl_10 : (List.range' 640 64).all (okMi 197) = true := by decide +kernel
theorem okl_11 : (List.range' 704 64).all (okMi 197) = true := by decide +kernel
theorem okl_12 : (List.range' 768 64).all (okMi 197) = true := by decide +kernel
theorem okl_13 : (List.range' 832 64).all (okMi 197) = true := by decide +kernel
