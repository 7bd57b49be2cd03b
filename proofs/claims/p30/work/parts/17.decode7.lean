set_option maxRecDepth 20000 in
theorem lch_0 : (cL_law.data.toList.drop 0).take 67 = [0xbb, 0x00, 0x07, 0x59, 0xb7, 0x00, 0x09, 0x4c, 0xbb, 0x00, 0x0a, 0x59, 0xb7, 0x00, 0x0c, 0x4d, 0x03, 0x3e, 0x1d, 0x2a, 0xbe, 0x10, 0x06, 0x64, 0xa3, 0x05, 0x53, 0x2a, 0x1d, 0x2e, 0x10, 0x3f, 0x7e, 0xaa, 0x00, 0x00, 0x00, 0x00, 0x05, 0x44, 0x00, 0x00, 0x00, 0x00, 0x00, 0x00, 0x00, 0x26, 0x00, 0x00, 0x00, 0xab, 0x00, 0x00, 0x00, 0xcc, 0x00, 0x00, 0x00, 0xed, 0x00, 0x00, 0x01, 0x18, 0x00, 0x00, 0x01] := by decide +kernel
set_option maxRecDepth 20000 in
theorem lch_3 : (cL_law.data.toList.drop 192).take 67 = [0x00, 0x00, 0x04, 0x9b, 0x00, 0x00, 0x04, 0xe4, 0x00, 0x00, 0x05, 0x05, 0x2b, 0x2a, 0x1d, 0x04, 0x60, 0x2e, 0x2a, 0x1d, 0x05, 0x60, 0x2e, 0xb6, 0x00, 0x0d, 0x57, 0x2c, 0x2a, 0x1d, 0x04, 0x60, 0x2e, 0x2a, 0x1d, 0x05, 0x60, 0x2e, 0xb6, 0x00, 0x11, 0x57, 0xa7, 0x04, 0x7b, 0x2b, 0x2a, 0x1d, 0x04, 0x60, 0x2e, 0x2a, 0x1d, 0x05, 0x60, 0x2e, 0xb6, 0x00, 0x12, 0x57, 0x2c, 0x2a, 0x1d, 0x04, 0x60, 0x2e, 0x2a] := by decide +kernel
set_option maxRecDepth 20000 in
theorem lch_4 : (cL_law.data.toList.drop 256).take 67 = [0x60, 0x2e, 0x2a, 0x1d, 0x05, 0x60, 0x2e, 0xb6, 0x00, 0x15, 0x57, 0xa7, 0x04, 0x5a, 0x2b, 0x2a, 0x1d, 0x04, 0x60, 0x2e, 0x2a, 0x1d, 0x05, 0x60, 0x2e, 0x2a, 0x1d, 0x06, 0x60, 0x2e, 0xb6, 0x00, 0x16, 0x57, 0x2c, 0x2a, 0x1d, 0x04, 0x60, 0x2e, 0x2a, 0x1d, 0x05, 0x60, 0x2e, 0x2a, 0x1d, 0x06, 0x60, 0x2e, 0xb6, 0x00, 0x1a, 0x57, 0xa7, 0x04, 0x2f, 0x2b, 0x2a, 0x1d, 0x04, 0x60, 0x2e, 0x2a, 0x1d, 0x05, 0x60] := by decide +kernel
set_option maxRecDepth 20000 in
theorem lch_5 : (cL_law.data.toList.drop 320).take 67 = [0x1d, 0x05, 0x60, 0x2e, 0x2a, 0x1d, 0x06, 0x60, 0x2e, 0xb6, 0x00, 0x1b, 0x57, 0x2c, 0x2a, 0x1d, 0x04, 0x60, 0x2e, 0x2a, 0x1d, 0x05, 0x60, 0x2e, 0x2a, 0x1d, 0x06, 0x60, 0x2e, 0xb6, 0x00, 0x1e, 0x57, 0xa7, 0x04, 0x04, 0x2b, 0x2a, 0x1d, 0x04, 0x60, 0x2e, 0x2a, 0x1d, 0x05, 0x60, 0x2e, 0xb6, 0x00, 0x1f, 0x57, 0x2c, 0x2a, 0x1d, 0x04, 0x60, 0x2e, 0x2a, 0x1d, 0x05, 0x60, 0x2e, 0xb6, 0x00, 0x22, 0x57, 0xa7] := by decide +kernel
set_option maxRecDepth 20000 in
theorem lch_6 : (cL_law.data.toList.drop 384).take 67 = [0x22, 0x57, 0xa7, 0x03, 0xe3, 0x2b, 0x2a, 0x1d, 0x04, 0x60, 0x2e, 0xb6, 0x00, 0x23, 0x57, 0x2c, 0x2a, 0x1d, 0x04, 0x60, 0x2e, 0xb6, 0x00, 0x27, 0x57, 0xa7, 0x03, 0xcc, 0x2b, 0xb6, 0x00, 0x28, 0x57, 0x2c, 0xb6, 0x00, 0x2c, 0x57, 0xa7, 0x03, 0xbf, 0x2b, 0x2a, 0x1d, 0x04, 0x60, 0x2e, 0xb6, 0x00, 0x2d, 0x57, 0x2c, 0x2a, 0x1d, 0x04, 0x60, 0x2e, 0xb6, 0x00, 0x30, 0x57, 0xa7, 0x03, 0xa8, 0x2b, 0xb6, 0x00] := by decide +kernel
set_option maxRecDepth 20000 in
theorem lch_7 : (cL_law.data.toList.drop 448).take 67 = [0x2b, 0xb6, 0x00, 0x31, 0x57, 0x2c, 0xb6, 0x00, 0x34, 0x57, 0xa7, 0x03, 0x9b, 0x2b, 0xb6, 0x00, 0x35, 0x57, 0x2c, 0xb6, 0x00, 0x38, 0x57, 0xa7, 0x03, 0x8e, 0x2b, 0x2a, 0x1d, 0x04, 0x60, 0x2e, 0xb6, 0x00, 0x39, 0x57, 0x2c, 0x2a, 0x1d, 0x04, 0x60, 0x2e, 0xb6, 0x00, 0x3c, 0x57, 0xa7, 0x03, 0x77, 0x2b, 0x2a, 0x1d, 0x04, 0x60, 0x2e, 0x2a, 0x1d, 0x05, 0x60, 0x2e, 0xb6, 0x00, 0x3d, 0x57, 0x2c, 0x2a, 0x1d] := by decide +kernel
set_option maxRecDepth 20000 in
theorem lch_8 : (cL_law.data.toList.drop 512).take 67 = [0x2c, 0x2a, 0x1d, 0x04, 0x60, 0x2e, 0x2a, 0x1d, 0x05, 0x60, 0x2e, 0xb6, 0x00, 0x40, 0x57, 0xa7, 0x03, 0x56, 0x2b, 0xb6, 0x00, 0x41, 0x57, 0x2c, 0xb6, 0x00, 0x44, 0x57, 0xa7, 0x03, 0x49, 0x2b, 0x2a, 0x1d, 0x04, 0x60, 0x2e, 0x2a, 0x1d, 0x05, 0x60, 0x2e, 0xb6, 0x00, 0x45, 0x57, 0x2c, 0x2a, 0x1d, 0x04, 0x60, 0x2e, 0x2a, 0x1d, 0x05, 0x60, 0x2e, 0xb6, 0x00, 0x48, 0x57, 0xa7, 0x03, 0x28, 0x2b, 0x2a, 0x1d] := by decide +kernel
set_option maxRecDepth 20000 in
theorem lch_9 : (cL_law.data.toList.drop 576).take 67 = [0x2b, 0x2a, 0x1d, 0x04, 0x60, 0x2e, 0x2a, 0x1d, 0x05, 0x60, 0x2e, 0xb6, 0x00, 0x49, 0x57, 0x2c, 0x2a, 0x1d, 0x04, 0x60, 0x2e, 0x2a, 0x1d, 0x05, 0x60, 0x2e, 0xb6, 0x00, 0x4c, 0x57, 0xa7, 0x03, 0x07, 0x2b, 0x2a, 0x1d, 0x04, 0x60, 0x2e, 0x2a, 0x1d, 0x05, 0x60, 0x2e, 0xb6, 0x00, 0x4d, 0x57, 0x2c, 0x2a, 0x1d, 0x04, 0x60, 0x2e, 0x2a, 0x1d, 0x05, 0x60, 0x2e, 0xb6, 0x00, 0x50, 0x57, 0xa7, 0x02, 0xe6, 0x2b] := by decide +kernel
set_option maxRecDepth 20000 in
theorem lch_10 : (cL_law.data.toList.drop 640).take 67 = [0x02, 0xe6, 0x2b, 0x2a, 0x1d, 0x04, 0x60, 0x2e, 0x2a, 0x1d, 0x05, 0x60, 0x2e, 0x2a, 0x1d, 0x06, 0x60, 0x2e, 0x2a, 0x1d, 0x07, 0x60, 0x2e, 0xb6, 0x00, 0x51, 0x57, 0x2c, 0x2a, 0x1d, 0x04, 0x60, 0x2e, 0x2a, 0x1d, 0x05, 0x60, 0x2e, 0x2a, 0x1d, 0x06, 0x60, 0x2e, 0x2a, 0x1d, 0x07, 0x60, 0x2e, 0xb6, 0x00, 0x55, 0x57, 0xa7, 0x02, 0xb1, 0x2b, 0x2a, 0x1d, 0x04, 0x60, 0x2e, 0xb6, 0x00, 0x56, 0x57, 0x2c, 0x2a] := by decide +kernel
set_option maxRecDepth 20000 in
theorem lch_11 : (cL_law.data.toList.drop 704).take 67 = [0x57, 0x2c, 0x2a, 0x1d, 0x04, 0x60, 0x2e, 0xb6, 0x00, 0x59, 0x57, 0xa7, 0x02, 0x9a, 0x2b, 0x2a, 0x1d, 0x04, 0x60, 0x2e, 0x2a, 0x1d, 0x05, 0x60, 0x2e, 0xb6, 0x00, 0x5a, 0x57, 0x2c, 0x2a, 0x1d, 0x04, 0x60, 0x2e, 0x2a, 0x1d, 0x05, 0x60, 0x2e, 0xb6, 0x00, 0x5d, 0x57, 0xa7, 0x02, 0x79, 0x2b, 0x2a, 0x1d, 0x04, 0x60, 0x2e, 0x2a, 0x1d, 0x05, 0x60, 0x2e, 0xb6, 0x00, 0x5e, 0x57, 0x2c, 0x2a, 0x1d, 0x04, 0x60] := by decide +kernel
set_option maxRecDepth 20000 in
theorem lch_12 : (cL_law.data.toList.drop 768).take 67 = [0x1d, 0x04, 0x60, 0x2e, 0x2a, 0x1d, 0x05, 0x60, 0x2e, 0xb6, 0x00, 0x61, 0x57, 0xa7, 0x02, 0x58, 0x2b, 0x2a, 0x1d, 0x04, 0x60, 0x2e, 0x2a, 0x1d, 0x05, 0x60, 0x2e, 0x2a, 0x1d, 0x06, 0x60, 0x2e, 0xb6, 0x00, 0x62, 0x57, 0x2c, 0x2a, 0x1d, 0x04, 0x60, 0x2e, 0x2a, 0x1d, 0x05, 0x60, 0x2e, 0x2a, 0x1d, 0x06, 0x60, 0x2e, 0xb6, 0x00, 0x65, 0x57, 0xa7, 0x02, 0x2d, 0x2b, 0xb6, 0x00, 0x66, 0x57, 0x2c, 0xb6, 0x00] := by decide +kernel
set_option maxRecDepth 20000 in
theorem lch_13 : (cL_law.data.toList.drop 832).take 67 = [0x2c, 0xb6, 0x00, 0x69, 0x57, 0xa7, 0x02, 0x20, 0x2b, 0x2a, 0x1d, 0x04, 0x60, 0x2e, 0x2a, 0x1d, 0x05, 0x60, 0x2e, 0x2a, 0x1d, 0x06, 0x60, 0x2e, 0xb6, 0x00, 0x6a, 0x58, 0x2c, 0x2a, 0x1d, 0x04, 0x60, 0x2e, 0x2a, 0x1d, 0x05, 0x60, 0x2e, 0x2a, 0x1d, 0x06, 0x60, 0x2e, 0xb6, 0x00, 0x6e, 0x58, 0xa7, 0x01, 0xf5, 0x2b, 0x2a, 0x1d, 0x04, 0x60, 0x2e, 0x2a, 0x1d, 0x05, 0x60, 0x2e, 0xb6, 0x00, 0x6f, 0x58, 0x2c] := by decide +kernel
set_option maxRecDepth 20000 in
theorem lch_14 : (cL_law.data.toList.drop 896).take 67 = [0x6f, 0x58, 0x2c, 0x2a, 0x1d, 0x04, 0x60, 0x2e, 0x2a, 0x1d, 0x05, 0x60, 0x2e, 0xb6, 0x00, 0x73, 0x58, 0xa7, 0x01, 0xd4, 0x2b, 0x2a, 0x1d, 0x04, 0x60, 0x2e, 0xb6, 0x00, 0x74, 0x57, 0x2c, 0x2a, 0x1d, 0x04, 0x60, 0x2e, 0xb6, 0x00, 0x77, 0x57, 0xa7, 0x01, 0xbd, 0x2b, 0xb6, 0x00, 0x78, 0x57, 0x2c, 0xb6, 0x00, 0x7b, 0x57, 0xa7, 0x01, 0xb0, 0x2b, 0x2a, 0x1d, 0x04, 0x60, 0x2e, 0xb6, 0x00, 0x7c, 0x57, 0x2c] := by decide +kernel
set_option maxRecDepth 20000 in
theorem lch_15 : (cL_law.data.toList.drop 960).take 67 = [0x7c, 0x57, 0x2c, 0x2a, 0x1d, 0x04, 0x60, 0x2e, 0xb6, 0x00, 0x7f, 0x57, 0xa7, 0x01, 0x99, 0x2b, 0xb6, 0x00, 0x80, 0x57, 0x2c, 0xb6, 0x00, 0x83, 0x57, 0xa7, 0x01, 0x8c, 0x2b, 0x2a, 0x1d, 0x04, 0x60, 0x2e, 0x2a, 0x1d, 0x05, 0x60, 0x2e, 0xb6, 0x00, 0x84, 0x2c, 0x2a, 0x1d, 0x04, 0x60, 0x2e, 0x2a, 0x1d, 0x05, 0x60, 0x2e, 0xb6, 0x00, 0x87, 0x9f, 0x01, 0x6d, 0x03, 0xac, 0x2b, 0xb6, 0x00, 0x88, 0x57, 0x2c] := by decide +kernel
set_option maxRecDepth 20000 in
theorem lch_16 : (cL_law.data.toList.drop 1024).take 67 = [0x88, 0x57, 0x2c, 0xb6, 0x00, 0x8b, 0x57, 0xa7, 0x01, 0x5e, 0x2b, 0xb6, 0x00, 0x8c, 0x57, 0x2c, 0xb6, 0x00, 0x8f, 0x57, 0xa7, 0x01, 0x51, 0x2b, 0x2a, 0x1d, 0x04, 0x60, 0x2e, 0x2a, 0x1d, 0x05, 0x60, 0x2e, 0x2a, 0x1d, 0x06, 0x60, 0x2e, 0xb6, 0x00, 0x90, 0x57, 0x2c, 0x2a, 0x1d, 0x04, 0x60, 0x2e, 0x2a, 0x1d, 0x05, 0x60, 0x2e, 0x2a, 0x1d, 0x06, 0x60, 0x2e, 0xb6, 0x00, 0x93, 0x57, 0xa7, 0x01, 0x26, 0x2b] := by decide +kernel
set_option maxRecDepth 20000 in
theorem lch_17 : (cL_law.data.toList.drop 1088).take 67 = [0x01, 0x26, 0x2b, 0x2a, 0x1d, 0x04, 0x60, 0x2e, 0xb6, 0x00, 0x94, 0x57, 0x2c, 0x2a, 0x1d, 0x04, 0x60, 0x2e, 0xb6, 0x00, 0x97, 0x57, 0xa7, 0x01, 0x0f, 0x2b, 0x2a, 0x1d, 0x04, 0x60, 0x2e, 0x2a, 0x1d, 0x05, 0x60, 0x2e, 0xb6, 0x00, 0x98, 0x57, 0x2c, 0x2a, 0x1d, 0x04, 0x60, 0x2e, 0x2a, 0x1d, 0x05, 0x60, 0x2e, 0xb6, 0x00, 0x9b, 0x57, 0xa7, 0x00, 0xee, 0x2b, 0x2a, 0x1d, 0x04, 0x60, 0x2e, 0xb6, 0x00, 0x9c] := by decide +kernel
set_option maxRecDepth 20000 in
theorem lch_18 : (cL_law.data.toList.drop 1152).take 67 = [0xb6, 0x00, 0x9c, 0x57, 0x2c, 0x2a, 0x1d, 0x04, 0x60, 0x2e, 0xb6, 0x00, 0x9f, 0x57, 0xa7, 0x00, 0xd7, 0x2b, 0x2a, 0x1d, 0x04, 0x60, 0x2e, 0x2a, 0x1d, 0x05, 0x60, 0x2e, 0x2a, 0x1d, 0x06, 0x60, 0x2e, 0xb6, 0x00, 0xa0, 0x57, 0x2c, 0x2a, 0x1d, 0x04, 0x60, 0x2e, 0x2a, 0x1d, 0x05, 0x60, 0x2e, 0x2a, 0x1d, 0x06, 0x60, 0x2e, 0xb6, 0x00, 0xa3, 0x57, 0xa7, 0x00, 0xac, 0x2b, 0x2a, 0x1d, 0x04, 0x60, 0x2e, 0x2a] := by decide +kernel
set_option maxRecDepth 20000 in
theorem lch_19 : (cL_law.data.toList.drop 1216).take 67 = [0x60, 0x2e, 0x2a, 0x1d, 0x05, 0x60, 0x2e, 0x2a, 0x1d, 0x06, 0x60, 0x2e, 0x85, 0x10, 0x20, 0x79, 0x2a, 0x1d, 0x07, 0x60, 0x2e, 0x85, 0x14, 0x00, 0xa4, 0x7f, 0x81, 0xb6, 0x00, 0xa6, 0x57, 0x2c, 0x2a, 0x1d, 0x04, 0x60, 0x2e, 0x2a, 0x1d, 0x05, 0x60, 0x2e, 0x2a, 0x1d, 0x06, 0x60, 0x2e, 0x85, 0x10, 0x20, 0x79, 0x2a, 0x1d, 0x07, 0x60, 0x2e, 0x85, 0x14, 0x00, 0xa4, 0x7f, 0x81, 0xb6, 0x00, 0xaa, 0x57, 0xa7] := by decide +kernel
set_option maxRecDepth 20000 in
theorem lch_20 : (cL_law.data.toList.drop 1280).take 67 = [0xaa, 0x57, 0xa7, 0x00, 0x63, 0x2b, 0x2a, 0x1d, 0x04, 0x60, 0x2e, 0x2a, 0x1d, 0x05, 0x60, 0x2e, 0xb6, 0x00, 0xab, 0x58, 0x2c, 0x2a, 0x1d, 0x04, 0x60, 0x2e, 0x2a, 0x1d, 0x05, 0x60, 0x2e, 0xb6, 0x00, 0xae, 0x58, 0xa7, 0x00, 0x42, 0x2b, 0x2a, 0x1d, 0x04, 0x60, 0x2e, 0x2a, 0x1d, 0x05, 0x60, 0x2e, 0x2a, 0x1d, 0x06, 0x60, 0x2e, 0x2a, 0x1d, 0x07, 0x60, 0x2e, 0x2a, 0x1d, 0x08, 0x60, 0x2e, 0xb6, 0x00, 0xaf] := by decide +kernel
set_option maxRecDepth 20000 in
theorem lch_21 : (cL_law.data.toList.drop 1344).take 67 = [0xb6, 0x00, 0xaf, 0x57, 0x2c, 0x2a, 0x1d, 0x04, 0x60, 0x2e, 0x2a, 0x1d, 0x05, 0x60, 0x2e, 0x2a, 0x1d, 0x06, 0x60, 0x2e, 0x2a, 0x1d, 0x07, 0x60, 0x2e, 0x2a, 0x1d, 0x08, 0x60, 0x2e, 0xb6, 0x00, 0xb3, 0x57, 0xa7, 0x00, 0x03, 0x84, 0x03, 0x06, 0xa7, 0xfa, 0xaa, 0x04, 0xac] := by decide +kernel
theorem dL_law_0 : decode cL_law 0 = .ok (.new 7, 3) := o_187 (by3_at (k := 0) (j := 0) lch_0 (by decide +kernel))
theorem dL_law_3 : decode cL_law 3 = .ok (.dup, 1) := o_89 (by1_at (k := 0) (j := 3) lch_0 (by decide +kernel))
theorem dL_law_4 : decode cL_law 4 = .ok (.invokespecial 9, 3) := o_183 (by3_at (k := 0) (j := 4) lch_0 (by decide +kernel))
theorem dL_law_7 : decode cL_law 7 = .ok (.astore_n 1, 1) := o_76 (by1_at (k := 0) (j := 7) lch_0 (by decide +kernel))
theorem dL_law_8 : decode cL_law 8 = .ok (.new 10, 3) := o_187 (by3_at (k := 0) (j := 8) lch_0 (by decide +kernel))
theorem dL_law_11 : decode cL_law 11 = .ok (.dup, 1) := o_89 (by1_at (k := 0) (j := 11) lch_0 (by decide +kernel))
theorem dL_law_12 : decode cL_law 12 = .ok (.invokespecial 12, 3) := o_183 (by3_at (k := 0) (j := 12) lch_0 (by decide +kernel))
theorem dL_law_15 : decode cL_law 15 = .ok (.astore_n 2, 1) := o_77 (by1_at (k := 0) (j := 15) lch_0 (by decide +kernel))
theorem dL_law_16 : decode cL_law 16 = .ok (.iconst 0, 1) := o_3 (by1_at (k := 0) (j := 16) lch_0 (by decide +kernel))
theorem dL_law_17 : decode cL_law 17 = .ok (.istore_n 3, 1) := o_62 (by1_at (k := 0) (j := 17) lch_0 (by decide +kernel))
theorem dL_law_18 : decode cL_law 18 = .ok (.iload_n 3, 1) := o_29 (by1_at (k := 0) (j := 18) lch_0 (by decide +kernel))
theorem dL_law_19 : decode cL_law 19 = .ok (.aload_n 0, 1) := o_42 (by1_at (k := 0) (j := 19) lch_0 (by decide +kernel))
theorem dL_law_20 : decode cL_law 20 = .ok (.arraylength, 1) := o_190 (by1_at (k := 0) (j := 20) lch_0 (by decide +kernel))
theorem dL_law_21 : decode cL_law 21 = .ok (.bipush 6, 2) := o_16 (by2_at (k := 0) (j := 21) lch_0 (by decide +kernel))
theorem dL_law_23 : decode cL_law 23 = .ok (.isub, 1) := o_100 (by1_at (k := 0) (j := 23) lch_0 (by decide +kernel))
theorem dL_law_24 : decode cL_law 24 = .ok (.if_icmp .gt 1363, 3) := o_163 (by3_at (k := 0) (j := 24) lch_0 (by decide +kernel))
theorem dL_law_27 : decode cL_law 27 = .ok (.aload_n 0, 1) := o_42 (by1_at (k := 0) (j := 27) lch_0 (by decide +kernel))
theorem dL_law_28 : decode cL_law 28 = .ok (.iload_n 3, 1) := o_29 (by1_at (k := 0) (j := 28) lch_0 (by decide +kernel))
theorem dL_law_29 : decode cL_law 29 = .ok (.iaload, 1) := o_46 (by1_at (k := 0) (j := 29) lch_0 (by decide +kernel))
theorem dL_law_30 : decode cL_law 30 = .ok (.bipush 63, 2) := o_16 (by2_at (k := 0) (j := 30) lch_0 (by decide +kernel))
theorem dL_law_32 : decode cL_law 32 = .ok (.iand, 1) := o_126 (by1_at (k := 0) (j := 32) lch_0 (by decide +kernel))
theorem dL_law_33 : decode cL_law 33 = .ok (.tableswitch 1348 0 38 #[171, 204, 237, 280, 323, 356, 379, 392, 415, 428, 441, 464, 497, 510, 543, 576, 609, 662, 685, 718, 751, 794, 807, 850, 883, 906, 919, 942, 955, 988, 1001, 1014, 1057, 1080, 1113, 1136, 1179, 1252, 1285], 171) := by decide +kernel
theorem dL_law_204 : decode cL_law 204 = .ok (.aload_n 1, 1) := o_43 (by1_at (k := 192) (j := 12) lch_3 (by decide +kernel))
theorem dL_law_205 : decode cL_law 205 = .ok (.aload_n 0, 1) := o_42 (by1_at (k := 192) (j := 13) lch_3 (by decide +kernel))
theorem dL_law_206 : decode cL_law 206 = .ok (.iload_n 3, 1) := o_29 (by1_at (k := 192) (j := 14) lch_3 (by decide +kernel))
theorem dL_law_207 : decode cL_law 207 = .ok (.iconst 1, 1) := o_4 (by1_at (k := 192) (j := 15) lch_3 (by decide +kernel))
theorem dL_law_208 : decode cL_law 208 = .ok (.iadd, 1) := o_96 (by1_at (k := 192) (j := 16) lch_3 (by decide +kernel))
theorem dL_law_209 : decode cL_law 209 = .ok (.iaload, 1) := o_46 (by1_at (k := 192) (j := 17) lch_3 (by decide +kernel))
theorem dL_law_210 : decode cL_law 210 = .ok (.aload_n 0, 1) := o_42 (by1_at (k := 192) (j := 18) lch_3 (by decide +kernel))
theorem dL_law_211 : decode cL_law 211 = .ok (.iload_n 3, 1) := o_29 (by1_at (k := 192) (j := 19) lch_3 (by decide +kernel))
theorem dL_law_212 : decode cL_law 212 = .ok (.iconst 2, 1) := o_5 (by1_at (k := 192) (j := 20) lch_3 (by decide +kernel))
theorem dL_law_213 : decode cL_law 213 = .ok (.iadd, 1) := o_96 (by1_at (k := 192) (j := 21) lch_3 (by decide +kernel))
theorem dL_law_214 : decode cL_law 214 = .ok (.iaload, 1) := o_46 (by1_at (k := 192) (j := 22) lch_3 (by decide +kernel))
theorem dL_law_215 : decode cL_law 215 = .ok (.invokevirtual 13, 3) := o_182 (by3_at (k := 192) (j := 23) lch_3 (by decide +kernel))
theorem dL_law_218 : decode cL_law 218 = .ok (.pop, 1) := o_87 (by1_at (k := 192) (j := 26) lch_3 (by decide +kernel))
theorem dL_law_219 : decode cL_law 219 = .ok (.aload_n 2, 1) := o_44 (by1_at (k := 192) (j := 27) lch_3 (by decide +kernel))
theorem dL_law_220 : decode cL_law 220 = .ok (.aload_n 0, 1) := o_42 (by1_at (k := 192) (j := 28) lch_3 (by decide +kernel))
theorem dL_law_221 : decode cL_law 221 = .ok (.iload_n 3, 1) := o_29 (by1_at (k := 192) (j := 29) lch_3 (by decide +kernel))
theorem dL_law_222 : decode cL_law 222 = .ok (.iconst 1, 1) := o_4 (by1_at (k := 192) (j := 30) lch_3 (by decide +kernel))
theorem dL_law_223 : decode cL_law 223 = .ok (.iadd, 1) := o_96 (by1_at (k := 192) (j := 31) lch_3 (by decide +kernel))
theorem dL_law_224 : decode cL_law 224 = .ok (.iaload, 1) := o_46 (by1_at (k := 192) (j := 32) lch_3 (by decide +kernel))
theorem dL_law_225 : decode cL_law 225 = .ok (.aload_n 0, 1) := o_42 (by1_at (k := 192) (j := 33) lch_3 (by decide +kernel))
theorem dL_law_226 : decode cL_law 226 = .ok (.iload_n 3, 1) := o_29 (by1_at (k := 192) (j := 34) lch_3 (by decide +kernel))
theorem dL_law_227 : decode cL_law 227 = .ok (.iconst 2, 1) := o_5 (by1_at (k := 192) (j := 35) lch_3 (by decide +kernel))
theorem dL_law_228 : decode cL_law 228 = .ok (.iadd, 1) := o_96 (by1_at (k := 192) (j := 36) lch_3 (by decide +kernel))
theorem dL_law_229 : decode cL_law 229 = .ok (.iaload, 1) := o_46 (by1_at (k := 192) (j := 37) lch_3 (by decide +kernel))
theorem dL_law_230 : decode cL_law 230 = .ok (.invokevirtual 17, 3) := o_182 (by3_at (k := 192) (j := 38) lch_3 (by decide +kernel))
theorem dL_law_233 : decode cL_law 233 = .ok (.pop, 1) := o_87 (by1_at (k := 192) (j := 41) lch_3 (by decide +kernel))
theorem dL_law_234 : decode cL_law 234 = .ok (.goto 1147, 3) := o_167 (by3_at (k := 192) (j := 42) lch_3 (by decide +kernel))
theorem dL_law_237 : decode cL_law 237 = .ok (.aload_n 1, 1) := o_43 (by1_at (k := 192) (j := 45) lch_3 (by decide +kernel))
theorem dL_law_238 : decode cL_law 238 = .ok (.aload_n 0, 1) := o_42 (by1_at (k := 192) (j := 46) lch_3 (by decide +kernel))
theorem dL_law_239 : decode cL_law 239 = .ok (.iload_n 3, 1) := o_29 (by1_at (k := 192) (j := 47) lch_3 (by decide +kernel))
theorem dL_law_240 : decode cL_law 240 = .ok (.iconst 1, 1) := o_4 (by1_at (k := 192) (j := 48) lch_3 (by decide +kernel))
theorem dL_law_241 : decode cL_law 241 = .ok (.iadd, 1) := o_96 (by1_at (k := 192) (j := 49) lch_3 (by decide +kernel))
theorem dL_law_242 : decode cL_law 242 = .ok (.iaload, 1) := o_46 (by1_at (k := 192) (j := 50) lch_3 (by decide +kernel))
theorem dL_law_243 : decode cL_law 243 = .ok (.aload_n 0, 1) := o_42 (by1_at (k := 192) (j := 51) lch_3 (by decide +kernel))
theorem dL_law_244 : decode cL_law 244 = .ok (.iload_n 3, 1) := o_29 (by1_at (k := 192) (j := 52) lch_3 (by decide +kernel))
theorem dL_law_245 : decode cL_law 245 = .ok (.iconst 2, 1) := o_5 (by1_at (k := 192) (j := 53) lch_3 (by decide +kernel))
theorem dL_law_246 : decode cL_law 246 = .ok (.iadd, 1) := o_96 (by1_at (k := 192) (j := 54) lch_3 (by decide +kernel))
theorem dL_law_247 : decode cL_law 247 = .ok (.iaload, 1) := o_46 (by1_at (k := 192) (j := 55) lch_3 (by decide +kernel))
theorem dL_law_248 : decode cL_law 248 = .ok (.invokevirtual 18, 3) := o_182 (by3_at (k := 192) (j := 56) lch_3 (by decide +kernel))
theorem dL_law_251 : decode cL_law 251 = .ok (.pop, 1) := o_87 (by1_at (k := 192) (j := 59) lch_3 (by decide +kernel))
theorem dL_law_252 : decode cL_law 252 = .ok (.aload_n 2, 1) := o_44 (by1_at (k := 192) (j := 60) lch_3 (by decide +kernel))
theorem dL_law_253 : decode cL_law 253 = .ok (.aload_n 0, 1) := o_42 (by1_at (k := 192) (j := 61) lch_3 (by decide +kernel))
theorem dL_law_254 : decode cL_law 254 = .ok (.iload_n 3, 1) := o_29 (by1_at (k := 192) (j := 62) lch_3 (by decide +kernel))
theorem dL_law_255 : decode cL_law 255 = .ok (.iconst 1, 1) := o_4 (by1_at (k := 192) (j := 63) lch_3 (by decide +kernel))
theorem dL_law_256 : decode cL_law 256 = .ok (.iadd, 1) := o_96 (by1_at (k := 256) (j := 0) lch_4 (by decide +kernel))
theorem dL_law_257 : decode cL_law 257 = .ok (.iaload, 1) := o_46 (by1_at (k := 256) (j := 1) lch_4 (by decide +kernel))
theorem dL_law_258 : decode cL_law 258 = .ok (.aload_n 0, 1) := o_42 (by1_at (k := 256) (j := 2) lch_4 (by decide +kernel))
theorem dL_law_259 : decode cL_law 259 = .ok (.iload_n 3, 1) := o_29 (by1_at (k := 256) (j := 3) lch_4 (by decide +kernel))
theorem dL_law_260 : decode cL_law 260 = .ok (.iconst 2, 1) := o_5 (by1_at (k := 256) (j := 4) lch_4 (by decide +kernel))
theorem dL_law_261 : decode cL_law 261 = .ok (.iadd, 1) := o_96 (by1_at (k := 256) (j := 5) lch_4 (by decide +kernel))
theorem dL_law_262 : decode cL_law 262 = .ok (.iaload, 1) := o_46 (by1_at (k := 256) (j := 6) lch_4 (by decide +kernel))
theorem dL_law_263 : decode cL_law 263 = .ok (.invokevirtual 21, 3) := o_182 (by3_at (k := 256) (j := 7) lch_4 (by decide +kernel))
theorem dL_law_266 : decode cL_law 266 = .ok (.pop, 1) := o_87 (by1_at (k := 256) (j := 10) lch_4 (by decide +kernel))
theorem dL_law_267 : decode cL_law 267 = .ok (.goto 1114, 3) := o_167 (by3_at (k := 256) (j := 11) lch_4 (by decide +kernel))
theorem dL_law_270 : decode cL_law 270 = .ok (.aload_n 1, 1) := o_43 (by1_at (k := 256) (j := 14) lch_4 (by decide +kernel))
theorem dL_law_271 : decode cL_law 271 = .ok (.aload_n 0, 1) := o_42 (by1_at (k := 256) (j := 15) lch_4 (by decide +kernel))
theorem dL_law_272 : decode cL_law 272 = .ok (.iload_n 3, 1) := o_29 (by1_at (k := 256) (j := 16) lch_4 (by decide +kernel))
theorem dL_law_273 : decode cL_law 273 = .ok (.iconst 1, 1) := o_4 (by1_at (k := 256) (j := 17) lch_4 (by decide +kernel))
theorem dL_law_274 : decode cL_law 274 = .ok (.iadd, 1) := o_96 (by1_at (k := 256) (j := 18) lch_4 (by decide +kernel))
theorem dL_law_275 : decode cL_law 275 = .ok (.iaload, 1) := o_46 (by1_at (k := 256) (j := 19) lch_4 (by decide +kernel))
theorem dL_law_276 : decode cL_law 276 = .ok (.aload_n 0, 1) := o_42 (by1_at (k := 256) (j := 20) lch_4 (by decide +kernel))
theorem dL_law_277 : decode cL_law 277 = .ok (.iload_n 3, 1) := o_29 (by1_at (k := 256) (j := 21) lch_4 (by decide +kernel))
theorem dL_law_278 : decode cL_law 278 = .ok (.iconst 2, 1) := o_5 (by1_at (k := 256) (j := 22) lch_4 (by decide +kernel))
theorem dL_law_279 : decode cL_law 279 = .ok (.iadd, 1) := o_96 (by1_at (k := 256) (j := 23) lch_4 (by decide +kernel))
theorem dL_law_280 : decode cL_law 280 = .ok (.iaload, 1) := o_46 (by1_at (k := 256) (j := 24) lch_4 (by decide +kernel))
theorem dL_law_281 : decode cL_law 281 = .ok (.aload_n 0, 1) := o_42 (by1_at (k := 256) (j := 25) lch_4 (by decide +kernel))
theorem dL_law_282 : decode cL_law 282 = .ok (.iload_n 3, 1) := o_29 (by1_at (k := 256) (j := 26) lch_4 (by decide +kernel))
theorem dL_law_283 : decode cL_law 283 = .ok (.iconst 3, 1) := o_6 (by1_at (k := 256) (j := 27) lch_4 (by decide +kernel))
theorem dL_law_284 : decode cL_law 284 = .ok (.iadd, 1) := o_96 (by1_at (k := 256) (j := 28) lch_4 (by decide +kernel))
theorem dL_law_285 : decode cL_law 285 = .ok (.iaload, 1) := o_46 (by1_at (k := 256) (j := 29) lch_4 (by decide +kernel))
theorem dL_law_286 : decode cL_law 286 = .ok (.invokevirtual 22, 3) := o_182 (by3_at (k := 256) (j := 30) lch_4 (by decide +kernel))
theorem dL_law_289 : decode cL_law 289 = .ok (.pop, 1) := o_87 (by1_at (k := 256) (j := 33) lch_4 (by decide +kernel))
theorem dL_law_290 : decode cL_law 290 = .ok (.aload_n 2, 1) := o_44 (by1_at (k := 256) (j := 34) lch_4 (by decide +kernel))
theorem dL_law_291 : decode cL_law 291 = .ok (.aload_n 0, 1) := o_42 (by1_at (k := 256) (j := 35) lch_4 (by decide +kernel))
theorem dL_law_292 : decode cL_law 292 = .ok (.iload_n 3, 1) := o_29 (by1_at (k := 256) (j := 36) lch_4 (by decide +kernel))
theorem dL_law_293 : decode cL_law 293 = .ok (.iconst 1, 1) := o_4 (by1_at (k := 256) (j := 37) lch_4 (by decide +kernel))
theorem dL_law_294 : decode cL_law 294 = .ok (.iadd, 1) := o_96 (by1_at (k := 256) (j := 38) lch_4 (by decide +kernel))
theorem dL_law_295 : decode cL_law 295 = .ok (.iaload, 1) := o_46 (by1_at (k := 256) (j := 39) lch_4 (by decide +kernel))
theorem dL_law_296 : decode cL_law 296 = .ok (.aload_n 0, 1) := o_42 (by1_at (k := 256) (j := 40) lch_4 (by decide +kernel))
theorem dL_law_297 : decode cL_law 297 = .ok (.iload_n 3, 1) := o_29 (by1_at (k := 256) (j := 41) lch_4 (by decide +kernel))
theorem dL_law_298 : decode cL_law 298 = .ok (.iconst 2, 1) := o_5 (by1_at (k := 256) (j := 42) lch_4 (by decide +kernel))
theorem dL_law_299 : decode cL_law 299 = .ok (.iadd, 1) := o_96 (by1_at (k := 256) (j := 43) lch_4 (by decide +kernel))
theorem dL_law_300 : decode cL_law 300 = .ok (.iaload, 1) := o_46 (by1_at (k := 256) (j := 44) lch_4 (by decide +kernel))
theorem dL_law_301 : decode cL_law 301 = .ok (.aload_n 0, 1) := o_42 (by1_at (k := 256) (j := 45) lch_4 (by decide +kernel))
theorem dL_law_302 : decode cL_law 302 = .ok (.iload_n 3, 1) := o_29 (by1_at (k := 256) (j := 46) lch_4 (by decide +kernel))
theorem dL_law_303 : decode cL_law 303 = .ok (.iconst 3, 1) := o_6 (by1_at (k := 256) (j := 47) lch_4 (by decide +kernel))
theorem dL_law_304 : decode cL_law 304 = .ok (.iadd, 1) := o_96 (by1_at (k := 256) (j := 48) lch_4 (by decide +kernel))
theorem dL_law_305 : decode cL_law 305 = .ok (.iaload, 1) := o_46 (by1_at (k := 256) (j := 49) lch_4 (by decide +kernel))
theorem dL_law_306 : decode cL_law 306 = .ok (.invokevirtual 26, 3) := o_182 (by3_at (k := 256) (j := 50) lch_4 (by decide +kernel))
theorem dL_law_309 : decode cL_law 309 = .ok (.pop, 1) := o_87 (by1_at (k := 256) (j := 53) lch_4 (by decide +kernel))
theorem dL_law_310 : decode cL_law 310 = .ok (.goto 1071, 3) := o_167 (by3_at (k := 256) (j := 54) lch_4 (by decide +kernel))
theorem dL_law_313 : decode cL_law 313 = .ok (.aload_n 1, 1) := o_43 (by1_at (k := 256) (j := 57) lch_4 (by decide +kernel))
theorem dL_law_314 : decode cL_law 314 = .ok (.aload_n 0, 1) := o_42 (by1_at (k := 256) (j := 58) lch_4 (by decide +kernel))
theorem dL_law_315 : decode cL_law 315 = .ok (.iload_n 3, 1) := o_29 (by1_at (k := 256) (j := 59) lch_4 (by decide +kernel))
theorem dL_law_316 : decode cL_law 316 = .ok (.iconst 1, 1) := o_4 (by1_at (k := 256) (j := 60) lch_4 (by decide +kernel))
theorem dL_law_317 : decode cL_law 317 = .ok (.iadd, 1) := o_96 (by1_at (k := 256) (j := 61) lch_4 (by decide +kernel))
theorem dL_law_318 : decode cL_law 318 = .ok (.iaload, 1) := o_46 (by1_at (k := 256) (j := 62) lch_4 (by decide +kernel))
theorem dL_law_319 : decode cL_law 319 = .ok (.aload_n 0, 1) := o_42 (by1_at (k := 256) (j := 63) lch_4 (by decide +kernel))
theorem dL_law_320 : decode cL_law 320 = .ok (.iload_n 3, 1) := o_29 (by1_at (k := 320) (j := 0) lch_5 (by decide +kernel))
theorem dL_law_321 : decode cL_law 321 = .ok (.iconst 2, 1) := o_5 (by1_at (k := 320) (j := 1) lch_5 (by decide +kernel))
theorem dL_law_322 : decode cL_law 322 = .ok (.iadd, 1) := o_96 (by1_at (k := 320) (j := 2) lch_5 (by decide +kernel))
theorem dL_law_323 : decode cL_law 323 = .ok (.iaload, 1) := o_46 (by1_at (k := 320) (j := 3) lch_5 (by decide +kernel))
theorem dL_law_324 : decode cL_law 324 = .ok (.aload_n 0, 1) := o_42 (by1_at (k := 320) (j := 4) lch_5 (by decide +kernel))
theorem dL_law_325 : decode cL_law 325 = .ok (.iload_n 3, 1) := o_29 (by1_at (k := 320) (j := 5) lch_5 (by decide +kernel))
theorem dL_law_326 : decode cL_law 326 = .ok (.iconst 3, 1) := o_6 (by1_at (k := 320) (j := 6) lch_5 (by decide +kernel))
theorem dL_law_327 : decode cL_law 327 = .ok (.iadd, 1) := o_96 (by1_at (k := 320) (j := 7) lch_5 (by decide +kernel))
theorem dL_law_328 : decode cL_law 328 = .ok (.iaload, 1) := o_46 (by1_at (k := 320) (j := 8) lch_5 (by decide +kernel))
theorem dL_law_329 : decode cL_law 329 = .ok (.invokevirtual 27, 3) := o_182 (by3_at (k := 320) (j := 9) lch_5 (by decide +kernel))
theorem dL_law_332 : decode cL_law 332 = .ok (.pop, 1) := o_87 (by1_at (k := 320) (j := 12) lch_5 (by decide +kernel))
theorem dL_law_333 : decode cL_law 333 = .ok (.aload_n 2, 1) := o_44 (by1_at (k := 320) (j := 13) lch_5 (by decide +kernel))
theorem dL_law_334 : decode cL_law 334 = .ok (.aload_n 0, 1) := o_42 (by1_at (k := 320) (j := 14) lch_5 (by decide +kernel))
theorem dL_law_335 : decode cL_law 335 = .ok (.iload_n 3, 1) := o_29 (by1_at (k := 320) (j := 15) lch_5 (by decide +kernel))
theorem dL_law_336 : decode cL_law 336 = .ok (.iconst 1, 1) := o_4 (by1_at (k := 320) (j := 16) lch_5 (by decide +kernel))
theorem dL_law_337 : decode cL_law 337 = .ok (.iadd, 1) := o_96 (by1_at (k := 320) (j := 17) lch_5 (by decide +kernel))
theorem dL_law_338 : decode cL_law 338 = .ok (.iaload, 1) := o_46 (by1_at (k := 320) (j := 18) lch_5 (by decide +kernel))
theorem dL_law_339 : decode cL_law 339 = .ok (.aload_n 0, 1) := o_42 (by1_at (k := 320) (j := 19) lch_5 (by decide +kernel))
theorem dL_law_340 : decode cL_law 340 = .ok (.iload_n 3, 1) := o_29 (by1_at (k := 320) (j := 20) lch_5 (by decide +kernel))
theorem dL_law_341 : decode cL_law 341 = .ok (.iconst 2, 1) := o_5 (by1_at (k := 320) (j := 21) lch_5 (by decide +kernel))
theorem dL_law_342 : decode cL_law 342 = .ok (.iadd, 1) := o_96 (by1_at (k := 320) (j := 22) lch_5 (by decide +kernel))
theorem dL_law_343 : decode cL_law 343 = .ok (.iaload, 1) := o_46 (by1_at (k := 320) (j := 23) lch_5 (by decide +kernel))
theorem dL_law_344 : decode cL_law 344 = .ok (.aload_n 0, 1) := o_42 (by1_at (k := 320) (j := 24) lch_5 (by decide +kernel))
theorem dL_law_345 : decode cL_law 345 = .ok (.iload_n 3, 1) := o_29 (by1_at (k := 320) (j := 25) lch_5 (by decide +kernel))
theorem dL_law_346 : decode cL_law 346 = .ok (.iconst 3, 1) := o_6 (by1_at (k := 320) (j := 26) lch_5 (by decide +kernel))
theorem dL_law_347 : decode cL_law 347 = .ok (.iadd, 1) := o_96 (by1_at (k := 320) (j := 27) lch_5 (by decide +kernel))
theorem dL_law_348 : decode cL_law 348 = .ok (.iaload, 1) := o_46 (by1_at (k := 320) (j := 28) lch_5 (by decide +kernel))
theorem dL_law_349 : decode cL_law 349 = .ok (.invokevirtual 30, 3) := o_182 (by3_at (k := 320) (j := 29) lch_5 (by decide +kernel))
theorem dL_law_352 : decode cL_law 352 = .ok (.pop, 1) := o_87 (by1_at (k := 320) (j := 32) lch_5 (by decide +kernel))
theorem dL_law_353 : decode cL_law 353 = .ok (.goto 1028, 3) := o_167 (by3_at (k := 320) (j := 33) lch_5 (by decide +kernel))
theorem dL_law_356 : decode cL_law 356 = .ok (.aload_n 1, 1) := o_43 (by1_at (k := 320) (j := 36) lch_5 (by decide +kernel))
theorem dL_law_357 : decode cL_law 357 = .ok (.aload_n 0, 1) := o_42 (by1_at (k := 320) (j := 37) lch_5 (by decide +kernel))
theorem dL_law_358 : decode cL_law 358 = .ok (.iload_n 3, 1) := o_29 (by1_at (k := 320) (j := 38) lch_5 (by decide +kernel))
theorem dL_law_359 : decode cL_law 359 = .ok (.iconst 1, 1) := o_4 (by1_at (k := 320) (j := 39) lch_5 (by decide +kernel))
theorem dL_law_360 : decode cL_law 360 = .ok (.iadd, 1) := o_96 (by1_at (k := 320) (j := 40) lch_5 (by decide +kernel))
theorem dL_law_361 : decode cL_law 361 = .ok (.iaload, 1) := o_46 (by1_at (k := 320) (j := 41) lch_5 (by decide +kernel))
theorem dL_law_362 : decode cL_law 362 = .ok (.aload_n 0, 1) := o_42 (by1_at (k := 320) (j := 42) lch_5 (by decide +kernel))
theorem dL_law_363 : decode cL_law 363 = .ok (.iload_n 3, 1) := o_29 (by1_at (k := 320) (j := 43) lch_5 (by decide +kernel))
theorem dL_law_364 : decode cL_law 364 = .ok (.iconst 2, 1) := o_5 (by1_at (k := 320) (j := 44) lch_5 (by decide +kernel))
theorem dL_law_365 : decode cL_law 365 = .ok (.iadd, 1) := o_96 (by1_at (k := 320) (j := 45) lch_5 (by decide +kernel))
theorem dL_law_366 : decode cL_law 366 = .ok (.iaload, 1) := o_46 (by1_at (k := 320) (j := 46) lch_5 (by decide +kernel))
theorem dL_law_367 : decode cL_law 367 = .ok (.invokevirtual 31, 3) := o_182 (by3_at (k := 320) (j := 47) lch_5 (by decide +kernel))
theorem dL_law_370 : decode cL_law 370 = .ok (.pop, 1) := o_87 (by1_at (k := 320) (j := 50) lch_5 (by decide +kernel))
theorem dL_law_371 : decode cL_law 371 = .ok (.aload_n 2, 1) := o_44 (by1_at (k := 320) (j := 51) lch_5 (by decide +kernel))
theorem dL_law_372 : decode cL_law 372 = .ok (.aload_n 0, 1) := o_42 (by1_at (k := 320) (j := 52) lch_5 (by decide +kernel))
theorem dL_law_373 : decode cL_law 373 = .ok (.iload_n 3, 1) := o_29 (by1_at (k := 320) (j := 53) lch_5 (by decide +kernel))
theorem dL_law_374 : decode cL_law 374 = .ok (.iconst 1, 1) := o_4 (by1_at (k := 320) (j := 54) lch_5 (by decide +kernel))
theorem dL_law_375 : decode cL_law 375 = .ok (.iadd, 1) := o_96 (by1_at (k := 320) (j := 55) lch_5 (by decide +kernel))
theorem dL_law_376 : decode cL_law 376 = .ok (.iaload, 1) := o_46 (by1_at (k := 320) (j := 56) lch_5 (by decide +kernel))
theorem dL_law_377 : decode cL_law 377 = .ok (.aload_n 0, 1) := o_42 (by1_at (k := 320) (j := 57) lch_5 (by decide +kernel))
theorem dL_law_378 : decode cL_law 378 = .ok (.iload_n 3, 1) := o_29 (by1_at (k := 320) (j := 58) lch_5 (by decide +kernel))
theorem dL_law_379 : decode cL_law 379 = .ok (.iconst 2, 1) := o_5 (by1_at (k := 320) (j := 59) lch_5 (by decide +kernel))
theorem dL_law_380 : decode cL_law 380 = .ok (.iadd, 1) := o_96 (by1_at (k := 320) (j := 60) lch_5 (by decide +kernel))
theorem dL_law_381 : decode cL_law 381 = .ok (.iaload, 1) := o_46 (by1_at (k := 320) (j := 61) lch_5 (by decide +kernel))
theorem dL_law_382 : decode cL_law 382 = .ok (.invokevirtual 34, 3) := o_182 (by3_at (k := 320) (j := 62) lch_5 (by decide +kernel))
theorem dL_law_385 : decode cL_law 385 = .ok (.pop, 1) := o_87 (by1_at (k := 384) (j := 1) lch_6 (by decide +kernel))
theorem dL_law_386 : decode cL_law 386 = .ok (.goto 995, 3) := o_167 (by3_at (k := 384) (j := 2) lch_6 (by decide +kernel))
theorem dL_law_389 : decode cL_law 389 = .ok (.aload_n 1, 1) := o_43 (by1_at (k := 384) (j := 5) lch_6 (by decide +kernel))
theorem dL_law_390 : decode cL_law 390 = .ok (.aload_n 0, 1) := o_42 (by1_at (k := 384) (j := 6) lch_6 (by decide +kernel))
theorem dL_law_391 : decode cL_law 391 = .ok (.iload_n 3, 1) := o_29 (by1_at (k := 384) (j := 7) lch_6 (by decide +kernel))
theorem dL_law_392 : decode cL_law 392 = .ok (.iconst 1, 1) := o_4 (by1_at (k := 384) (j := 8) lch_6 (by decide +kernel))
theorem dL_law_393 : decode cL_law 393 = .ok (.iadd, 1) := o_96 (by1_at (k := 384) (j := 9) lch_6 (by decide +kernel))
theorem dL_law_394 : decode cL_law 394 = .ok (.iaload, 1) := o_46 (by1_at (k := 384) (j := 10) lch_6 (by decide +kernel))
theorem dL_law_395 : decode cL_law 395 = .ok (.invokevirtual 35, 3) := o_182 (by3_at (k := 384) (j := 11) lch_6 (by decide +kernel))
theorem dL_law_398 : decode cL_law 398 = .ok (.pop, 1) := o_87 (by1_at (k := 384) (j := 14) lch_6 (by decide +kernel))
theorem dL_law_399 : decode cL_law 399 = .ok (.aload_n 2, 1) := o_44 (by1_at (k := 384) (j := 15) lch_6 (by decide +kernel))
theorem dL_law_400 : decode cL_law 400 = .ok (.aload_n 0, 1) := o_42 (by1_at (k := 384) (j := 16) lch_6 (by decide +kernel))
theorem dL_law_401 : decode cL_law 401 = .ok (.iload_n 3, 1) := o_29 (by1_at (k := 384) (j := 17) lch_6 (by decide +kernel))
theorem dL_law_402 : decode cL_law 402 = .ok (.iconst 1, 1) := o_4 (by1_at (k := 384) (j := 18) lch_6 (by decide +kernel))
theorem dL_law_403 : decode cL_law 403 = .ok (.iadd, 1) := o_96 (by1_at (k := 384) (j := 19) lch_6 (by decide +kernel))
theorem dL_law_404 : decode cL_law 404 = .ok (.iaload, 1) := o_46 (by1_at (k := 384) (j := 20) lch_6 (by decide +kernel))
theorem dL_law_405 : decode cL_law 405 = .ok (.invokevirtual 39, 3) := o_182 (by3_at (k := 384) (j := 21) lch_6 (by decide +kernel))
theorem dL_law_408 : decode cL_law 408 = .ok (.pop, 1) := o_87 (by1_at (k := 384) (j := 24) lch_6 (by decide +kernel))
theorem dL_law_409 : decode cL_law 409 = .ok (.goto 972, 3) := o_167 (by3_at (k := 384) (j := 25) lch_6 (by decide +kernel))
theorem dL_law_412 : decode cL_law 412 = .ok (.aload_n 1, 1) := o_43 (by1_at (k := 384) (j := 28) lch_6 (by decide +kernel))
theorem dL_law_413 : decode cL_law 413 = .ok (.invokevirtual 40, 3) := o_182 (by3_at (k := 384) (j := 29) lch_6 (by decide +kernel))
theorem dL_law_416 : decode cL_law 416 = .ok (.pop, 1) := o_87 (by1_at (k := 384) (j := 32) lch_6 (by decide +kernel))
theorem dL_law_417 : decode cL_law 417 = .ok (.aload_n 2, 1) := o_44 (by1_at (k := 384) (j := 33) lch_6 (by decide +kernel))
theorem dL_law_418 : decode cL_law 418 = .ok (.invokevirtual 44, 3) := o_182 (by3_at (k := 384) (j := 34) lch_6 (by decide +kernel))
theorem dL_law_421 : decode cL_law 421 = .ok (.pop, 1) := o_87 (by1_at (k := 384) (j := 37) lch_6 (by decide +kernel))
theorem dL_law_422 : decode cL_law 422 = .ok (.goto 959, 3) := o_167 (by3_at (k := 384) (j := 38) lch_6 (by decide +kernel))
theorem dL_law_425 : decode cL_law 425 = .ok (.aload_n 1, 1) := o_43 (by1_at (k := 384) (j := 41) lch_6 (by decide +kernel))
theorem dL_law_426 : decode cL_law 426 = .ok (.aload_n 0, 1) := o_42 (by1_at (k := 384) (j := 42) lch_6 (by decide +kernel))
theorem dL_law_427 : decode cL_law 427 = .ok (.iload_n 3, 1) := o_29 (by1_at (k := 384) (j := 43) lch_6 (by decide +kernel))
theorem dL_law_428 : decode cL_law 428 = .ok (.iconst 1, 1) := o_4 (by1_at (k := 384) (j := 44) lch_6 (by decide +kernel))
theorem dL_law_429 : decode cL_law 429 = .ok (.iadd, 1) := o_96 (by1_at (k := 384) (j := 45) lch_6 (by decide +kernel))
theorem dL_law_430 : decode cL_law 430 = .ok (.iaload, 1) := o_46 (by1_at (k := 384) (j := 46) lch_6 (by decide +kernel))
theorem dL_law_431 : decode cL_law 431 = .ok (.invokevirtual 45, 3) := o_182 (by3_at (k := 384) (j := 47) lch_6 (by decide +kernel))
theorem dL_law_434 : decode cL_law 434 = .ok (.pop, 1) := o_87 (by1_at (k := 384) (j := 50) lch_6 (by decide +kernel))
theorem dL_law_435 : decode cL_law 435 = .ok (.aload_n 2, 1) := o_44 (by1_at (k := 384) (j := 51) lch_6 (by decide +kernel))
theorem dL_law_436 : decode cL_law 436 = .ok (.aload_n 0, 1) := o_42 (by1_at (k := 384) (j := 52) lch_6 (by decide +kernel))
theorem dL_law_437 : decode cL_law 437 = .ok (.iload_n 3, 1) := o_29 (by1_at (k := 384) (j := 53) lch_6 (by decide +kernel))
theorem dL_law_438 : decode cL_law 438 = .ok (.iconst 1, 1) := o_4 (by1_at (k := 384) (j := 54) lch_6 (by decide +kernel))
theorem dL_law_439 : decode cL_law 439 = .ok (.iadd, 1) := o_96 (by1_at (k := 384) (j := 55) lch_6 (by decide +kernel))
theorem dL_law_440 : decode cL_law 440 = .ok (.iaload, 1) := o_46 (by1_at (k := 384) (j := 56) lch_6 (by decide +kernel))
theorem dL_law_441 : decode cL_law 441 = .ok (.invokevirtual 48, 3) := o_182 (by3_at (k := 384) (j := 57) lch_6 (by decide +kernel))
theorem dL_law_444 : decode cL_law 444 = .ok (.pop, 1) := o_87 (by1_at (k := 384) (j := 60) lch_6 (by decide +kernel))
theorem dL_law_445 : decode cL_law 445 = .ok (.goto 936, 3) := o_167 (by3_at (k := 384) (j := 61) lch_6 (by decide +kernel))
theorem dL_law_448 : decode cL_law 448 = .ok (.aload_n 1, 1) := o_43 (by1_at (k := 448) (j := 0) lch_7 (by decide +kernel))
theorem dL_law_449 : decode cL_law 449 = .ok (.invokevirtual 49, 3) := o_182 (by3_at (k := 448) (j := 1) lch_7 (by decide +kernel))
theorem dL_law_452 : decode cL_law 452 = .ok (.pop, 1) := o_87 (by1_at (k := 448) (j := 4) lch_7 (by decide +kernel))
theorem dL_law_453 : decode cL_law 453 = .ok (.aload_n 2, 1) := o_44 (by1_at (k := 448) (j := 5) lch_7 (by decide +kernel))
theorem dL_law_454 : decode cL_law 454 = .ok (.invokevirtual 52, 3) := o_182 (by3_at (k := 448) (j := 6) lch_7 (by decide +kernel))
theorem dL_law_457 : decode cL_law 457 = .ok (.pop, 1) := o_87 (by1_at (k := 448) (j := 9) lch_7 (by decide +kernel))
theorem dL_law_458 : decode cL_law 458 = .ok (.goto 923, 3) := o_167 (by3_at (k := 448) (j := 10) lch_7 (by decide +kernel))
theorem dL_law_461 : decode cL_law 461 = .ok (.aload_n 1, 1) := o_43 (by1_at (k := 448) (j := 13) lch_7 (by decide +kernel))
theorem dL_law_462 : decode cL_law 462 = .ok (.invokevirtual 53, 3) := o_182 (by3_at (k := 448) (j := 14) lch_7 (by decide +kernel))
theorem dL_law_465 : decode cL_law 465 = .ok (.pop, 1) := o_87 (by1_at (k := 448) (j := 17) lch_7 (by decide +kernel))
theorem dL_law_466 : decode cL_law 466 = .ok (.aload_n 2, 1) := o_44 (by1_at (k := 448) (j := 18) lch_7 (by decide +kernel))
theorem dL_law_467 : decode cL_law 467 = .ok (.invokevirtual 56, 3) := o_182 (by3_at (k := 448) (j := 19) lch_7 (by decide +kernel))
theorem dL_law_470 : decode cL_law 470 = .ok (.pop, 1) := o_87 (by1_at (k := 448) (j := 22) lch_7 (by decide +kernel))
theorem dL_law_471 : decode cL_law 471 = .ok (.goto 910, 3) := o_167 (by3_at (k := 448) (j := 23) lch_7 (by decide +kernel))
theorem dL_law_474 : decode cL_law 474 = .ok (.aload_n 1, 1) := o_43 (by1_at (k := 448) (j := 26) lch_7 (by decide +kernel))
theorem dL_law_475 : decode cL_law 475 = .ok (.aload_n 0, 1) := o_42 (by1_at (k := 448) (j := 27) lch_7 (by decide +kernel))
theorem dL_law_476 : decode cL_law 476 = .ok (.iload_n 3, 1) := o_29 (by1_at (k := 448) (j := 28) lch_7 (by decide +kernel))
theorem dL_law_477 : decode cL_law 477 = .ok (.iconst 1, 1) := o_4 (by1_at (k := 448) (j := 29) lch_7 (by decide +kernel))
theorem dL_law_478 : decode cL_law 478 = .ok (.iadd, 1) := o_96 (by1_at (k := 448) (j := 30) lch_7 (by decide +kernel))
theorem dL_law_479 : decode cL_law 479 = .ok (.iaload, 1) := o_46 (by1_at (k := 448) (j := 31) lch_7 (by decide +kernel))
theorem dL_law_480 : decode cL_law 480 = .ok (.invokevirtual 57, 3) := o_182 (by3_at (k := 448) (j := 32) lch_7 (by decide +kernel))
theorem dL_law_483 : decode cL_law 483 = .ok (.pop, 1) := o_87 (by1_at (k := 448) (j := 35) lch_7 (by decide +kernel))
theorem dL_law_484 : decode cL_law 484 = .ok (.aload_n 2, 1) := o_44 (by1_at (k := 448) (j := 36) lch_7 (by decide +kernel))
theorem dL_law_485 : decode cL_law 485 = .ok (.aload_n 0, 1) := o_42 (by1_at (k := 448) (j := 37) lch_7 (by decide +kernel))
theorem dL_law_486 : decode cL_law 486 = .ok (.iload_n 3, 1) := o_29 (by1_at (k := 448) (j := 38) lch_7 (by decide +kernel))
theorem dL_law_487 : decode cL_law 487 = .ok (.iconst 1, 1) := o_4 (by1_at (k := 448) (j := 39) lch_7 (by decide +kernel))
theorem dL_law_488 : decode cL_law 488 = .ok (.iadd, 1) := o_96 (by1_at (k := 448) (j := 40) lch_7 (by decide +kernel))
theorem dL_law_489 : decode cL_law 489 = .ok (.iaload, 1) := o_46 (by1_at (k := 448) (j := 41) lch_7 (by decide +kernel))
theorem dL_law_490 : decode cL_law 490 = .ok (.invokevirtual 60, 3) := o_182 (by3_at (k := 448) (j := 42) lch_7 (by decide +kernel))
theorem dL_law_493 : decode cL_law 493 = .ok (.pop, 1) := o_87 (by1_at (k := 448) (j := 45) lch_7 (by decide +kernel))
theorem dL_law_494 : decode cL_law 494 = .ok (.goto 887, 3) := o_167 (by3_at (k := 448) (j := 46) lch_7 (by decide +kernel))
theorem dL_law_497 : decode cL_law 497 = .ok (.aload_n 1, 1) := o_43 (by1_at (k := 448) (j := 49) lch_7 (by decide +kernel))
theorem dL_law_498 : decode cL_law 498 = .ok (.aload_n 0, 1) := o_42 (by1_at (k := 448) (j := 50) lch_7 (by decide +kernel))
theorem dL_law_499 : decode cL_law 499 = .ok (.iload_n 3, 1) := o_29 (by1_at (k := 448) (j := 51) lch_7 (by decide +kernel))
theorem dL_law_500 : decode cL_law 500 = .ok (.iconst 1, 1) := o_4 (by1_at (k := 448) (j := 52) lch_7 (by decide +kernel))
theorem dL_law_501 : decode cL_law 501 = .ok (.iadd, 1) := o_96 (by1_at (k := 448) (j := 53) lch_7 (by decide +kernel))
theorem dL_law_502 : decode cL_law 502 = .ok (.iaload, 1) := o_46 (by1_at (k := 448) (j := 54) lch_7 (by decide +kernel))
theorem dL_law_503 : decode cL_law 503 = .ok (.aload_n 0, 1) := o_42 (by1_at (k := 448) (j := 55) lch_7 (by decide +kernel))
theorem dL_law_504 : decode cL_law 504 = .ok (.iload_n 3, 1) := o_29 (by1_at (k := 448) (j := 56) lch_7 (by decide +kernel))
theorem dL_law_505 : decode cL_law 505 = .ok (.iconst 2, 1) := o_5 (by1_at (k := 448) (j := 57) lch_7 (by decide +kernel))
theorem dL_law_506 : decode cL_law 506 = .ok (.iadd, 1) := o_96 (by1_at (k := 448) (j := 58) lch_7 (by decide +kernel))
theorem dL_law_507 : decode cL_law 507 = .ok (.iaload, 1) := o_46 (by1_at (k := 448) (j := 59) lch_7 (by decide +kernel))
theorem dL_law_508 : decode cL_law 508 = .ok (.invokevirtual 61, 3) := o_182 (by3_at (k := 448) (j := 60) lch_7 (by decide +kernel))
theorem dL_law_511 : decode cL_law 511 = .ok (.pop, 1) := o_87 (by1_at (k := 448) (j := 63) lch_7 (by decide +kernel))
theorem dL_law_512 : decode cL_law 512 = .ok (.aload_n 2, 1) := o_44 (by1_at (k := 512) (j := 0) lch_8 (by decide +kernel))
theorem dL_law_513 : decode cL_law 513 = .ok (.aload_n 0, 1) := o_42 (by1_at (k := 512) (j := 1) lch_8 (by decide +kernel))
theorem dL_law_514 : decode cL_law 514 = .ok (.iload_n 3, 1) := o_29 (by1_at (k := 512) (j := 2) lch_8 (by decide +kernel))
theorem dL_law_515 : decode cL_law 515 = .ok (.iconst 1, 1) := o_4 (by1_at (k := 512) (j := 3) lch_8 (by decide +kernel))
theorem dL_law_516 : decode cL_law 516 = .ok (.iadd, 1) := o_96 (by1_at (k := 512) (j := 4) lch_8 (by decide +kernel))
theorem dL_law_517 : decode cL_law 517 = .ok (.iaload, 1) := o_46 (by1_at (k := 512) (j := 5) lch_8 (by decide +kernel))
theorem dL_law_518 : decode cL_law 518 = .ok (.aload_n 0, 1) := o_42 (by1_at (k := 512) (j := 6) lch_8 (by decide +kernel))
theorem dL_law_519 : decode cL_law 519 = .ok (.iload_n 3, 1) := o_29 (by1_at (k := 512) (j := 7) lch_8 (by decide +kernel))
theorem dL_law_520 : decode cL_law 520 = .ok (.iconst 2, 1) := o_5 (by1_at (k := 512) (j := 8) lch_8 (by decide +kernel))
theorem dL_law_521 : decode cL_law 521 = .ok (.iadd, 1) := o_96 (by1_at (k := 512) (j := 9) lch_8 (by decide +kernel))
theorem dL_law_522 : decode cL_law 522 = .ok (.iaload, 1) := o_46 (by1_at (k := 512) (j := 10) lch_8 (by decide +kernel))
theorem dL_law_523 : decode cL_law 523 = .ok (.invokevirtual 64, 3) := o_182 (by3_at (k := 512) (j := 11) lch_8 (by decide +kernel))
theorem dL_law_526 : decode cL_law 526 = .ok (.pop, 1) := o_87 (by1_at (k := 512) (j := 14) lch_8 (by decide +kernel))
theorem dL_law_527 : decode cL_law 527 = .ok (.goto 854, 3) := o_167 (by3_at (k := 512) (j := 15) lch_8 (by decide +kernel))
theorem dL_law_530 : decode cL_law 530 = .ok (.aload_n 1, 1) := o_43 (by1_at (k := 512) (j := 18) lch_8 (by decide +kernel))
theorem dL_law_531 : decode cL_law 531 = .ok (.invokevirtual 65, 3) := o_182 (by3_at (k := 512) (j := 19) lch_8 (by decide +kernel))
theorem dL_law_534 : decode cL_law 534 = .ok (.pop, 1) := o_87 (by1_at (k := 512) (j := 22) lch_8 (by decide +kernel))
theorem dL_law_535 : decode cL_law 535 = .ok (.aload_n 2, 1) := o_44 (by1_at (k := 512) (j := 23) lch_8 (by decide +kernel))
theorem dL_law_536 : decode cL_law 536 = .ok (.invokevirtual 68, 3) := o_182 (by3_at (k := 512) (j := 24) lch_8 (by decide +kernel))
theorem dL_law_539 : decode cL_law 539 = .ok (.pop, 1) := o_87 (by1_at (k := 512) (j := 27) lch_8 (by decide +kernel))
theorem dL_law_540 : decode cL_law 540 = .ok (.goto 841, 3) := o_167 (by3_at (k := 512) (j := 28) lch_8 (by decide +kernel))
theorem dL_law_543 : decode cL_law 543 = .ok (.aload_n 1, 1) := o_43 (by1_at (k := 512) (j := 31) lch_8 (by decide +kernel))
theorem dL_law_544 : decode cL_law 544 = .ok (.aload_n 0, 1) := o_42 (by1_at (k := 512) (j := 32) lch_8 (by decide +kernel))
theorem dL_law_545 : decode cL_law 545 = .ok (.iload_n 3, 1) := o_29 (by1_at (k := 512) (j := 33) lch_8 (by decide +kernel))
theorem dL_law_546 : decode cL_law 546 = .ok (.iconst 1, 1) := o_4 (by1_at (k := 512) (j := 34) lch_8 (by decide +kernel))
theorem dL_law_547 : decode cL_law 547 = .ok (.iadd, 1) := o_96 (by1_at (k := 512) (j := 35) lch_8 (by decide +kernel))
theorem dL_law_548 : decode cL_law 548 = .ok (.iaload, 1) := o_46 (by1_at (k := 512) (j := 36) lch_8 (by decide +kernel))
theorem dL_law_549 : decode cL_law 549 = .ok (.aload_n 0, 1) := o_42 (by1_at (k := 512) (j := 37) lch_8 (by decide +kernel))
theorem dL_law_550 : decode cL_law 550 = .ok (.iload_n 3, 1) := o_29 (by1_at (k := 512) (j := 38) lch_8 (by decide +kernel))
theorem dL_law_551 : decode cL_law 551 = .ok (.iconst 2, 1) := o_5 (by1_at (k := 512) (j := 39) lch_8 (by decide +kernel))
theorem dL_law_552 : decode cL_law 552 = .ok (.iadd, 1) := o_96 (by1_at (k := 512) (j := 40) lch_8 (by decide +kernel))
theorem dL_law_553 : decode cL_law 553 = .ok (.iaload, 1) := o_46 (by1_at (k := 512) (j := 41) lch_8 (by decide +kernel))
theorem dL_law_554 : decode cL_law 554 = .ok (.invokevirtual 69, 3) := o_182 (by3_at (k := 512) (j := 42) lch_8 (by decide +kernel))
theorem dL_law_557 : decode cL_law 557 = .ok (.pop, 1) := o_87 (by1_at (k := 512) (j := 45) lch_8 (by decide +kernel))
theorem dL_law_558 : decode cL_law 558 = .ok (.aload_n 2, 1) := o_44 (by1_at (k := 512) (j := 46) lch_8 (by decide +kernel))
theorem dL_law_559 : decode cL_law 559 = .ok (.aload_n 0, 1) := o_42 (by1_at (k := 512) (j := 47) lch_8 (by decide +kernel))
theorem dL_law_560 : decode cL_law 560 = .ok (.iload_n 3, 1) := o_29 (by1_at (k := 512) (j := 48) lch_8 (by decide +kernel))
theorem dL_law_561 : decode cL_law 561 = .ok (.iconst 1, 1) := o_4 (by1_at (k := 512) (j := 49) lch_8 (by decide +kernel))
theorem dL_law_562 : decode cL_law 562 = .ok (.iadd, 1) := o_96 (by1_at (k := 512) (j := 50) lch_8 (by decide +kernel))
theorem dL_law_563 : decode cL_law 563 = .ok (.iaload, 1) := o_46 (by1_at (k := 512) (j := 51) lch_8 (by decide +kernel))
theorem dL_law_564 : decode cL_law 564 = .ok (.aload_n 0, 1) := o_42 (by1_at (k := 512) (j := 52) lch_8 (by decide +kernel))
theorem dL_law_565 : decode cL_law 565 = .ok (.iload_n 3, 1) := o_29 (by1_at (k := 512) (j := 53) lch_8 (by decide +kernel))
theorem dL_law_566 : decode cL_law 566 = .ok (.iconst 2, 1) := o_5 (by1_at (k := 512) (j := 54) lch_8 (by decide +kernel))
theorem dL_law_567 : decode cL_law 567 = .ok (.iadd, 1) := o_96 (by1_at (k := 512) (j := 55) lch_8 (by decide +kernel))
theorem dL_law_568 : decode cL_law 568 = .ok (.iaload, 1) := o_46 (by1_at (k := 512) (j := 56) lch_8 (by decide +kernel))
theorem dL_law_569 : decode cL_law 569 = .ok (.invokevirtual 72, 3) := o_182 (by3_at (k := 512) (j := 57) lch_8 (by decide +kernel))
theorem dL_law_572 : decode cL_law 572 = .ok (.pop, 1) := o_87 (by1_at (k := 512) (j := 60) lch_8 (by decide +kernel))
theorem dL_law_573 : decode cL_law 573 = .ok (.goto 808, 3) := o_167 (by3_at (k := 512) (j := 61) lch_8 (by decide +kernel))
theorem dL_law_576 : decode cL_law 576 = .ok (.aload_n 1, 1) := o_43 (by1_at (k := 576) (j := 0) lch_9 (by decide +kernel))
theorem dL_law_577 : decode cL_law 577 = .ok (.aload_n 0, 1) := o_42 (by1_at (k := 576) (j := 1) lch_9 (by decide +kernel))
theorem dL_law_578 : decode cL_law 578 = .ok (.iload_n 3, 1) := o_29 (by1_at (k := 576) (j := 2) lch_9 (by decide +kernel))
theorem dL_law_579 : decode cL_law 579 = .ok (.iconst 1, 1) := o_4 (by1_at (k := 576) (j := 3) lch_9 (by decide +kernel))
theorem dL_law_580 : decode cL_law 580 = .ok (.iadd, 1) := o_96 (by1_at (k := 576) (j := 4) lch_9 (by decide +kernel))
theorem dL_law_581 : decode cL_law 581 = .ok (.iaload, 1) := o_46 (by1_at (k := 576) (j := 5) lch_9 (by decide +kernel))
theorem dL_law_582 : decode cL_law 582 = .ok (.aload_n 0, 1) := o_42 (by1_at (k := 576) (j := 6) lch_9 (by decide +kernel))
theorem dL_law_583 : decode cL_law 583 = .ok (.iload_n 3, 1) := o_29 (by1_at (k := 576) (j := 7) lch_9 (by decide +kernel))
theorem dL_law_584 : decode cL_law 584 = .ok (.iconst 2, 1) := o_5 (by1_at (k := 576) (j := 8) lch_9 (by decide +kernel))
theorem dL_law_585 : decode cL_law 585 = .ok (.iadd, 1) := o_96 (by1_at (k := 576) (j := 9) lch_9 (by decide +kernel))
theorem dL_law_586 : decode cL_law 586 = .ok (.iaload, 1) := o_46 (by1_at (k := 576) (j := 10) lch_9 (by decide +kernel))
theorem dL_law_587 : decode cL_law 587 = .ok (.invokevirtual 73, 3) := o_182 (by3_at (k := 576) (j := 11) lch_9 (by decide +kernel))
theorem dL_law_590 : decode cL_law 590 = .ok (.pop, 1) := o_87 (by1_at (k := 576) (j := 14) lch_9 (by decide +kernel))
theorem dL_law_591 : decode cL_law 591 = .ok (.aload_n 2, 1) := o_44 (by1_at (k := 576) (j := 15) lch_9 (by decide +kernel))
theorem dL_law_592 : decode cL_law 592 = .ok (.aload_n 0, 1) := o_42 (by1_at (k := 576) (j := 16) lch_9 (by decide +kernel))
theorem dL_law_593 : decode cL_law 593 = .ok (.iload_n 3, 1) := o_29 (by1_at (k := 576) (j := 17) lch_9 (by decide +kernel))
theorem dL_law_594 : decode cL_law 594 = .ok (.iconst 1, 1) := o_4 (by1_at (k := 576) (j := 18) lch_9 (by decide +kernel))
theorem dL_law_595 : decode cL_law 595 = .ok (.iadd, 1) := o_96 (by1_at (k := 576) (j := 19) lch_9 (by decide +kernel))
theorem dL_law_596 : decode cL_law 596 = .ok (.iaload, 1) := o_46 (by1_at (k := 576) (j := 20) lch_9 (by decide +kernel))
theorem dL_law_597 : decode cL_law 597 = .ok (.aload_n 0, 1) := o_42 (by1_at (k := 576) (j := 21) lch_9 (by decide +kernel))
theorem dL_law_598 : decode cL_law 598 = .ok (.iload_n 3, 1) := o_29 (by1_at (k := 576) (j := 22) lch_9 (by decide +kernel))
theorem dL_law_599 : decode cL_law 599 = .ok (.iconst 2, 1) := o_5 (by1_at (k := 576) (j := 23) lch_9 (by decide +kernel))
theorem dL_law_600 : decode cL_law 600 = .ok (.iadd, 1) := o_96 (by1_at (k := 576) (j := 24) lch_9 (by decide +kernel))
theorem dL_law_601 : decode cL_law 601 = .ok (.iaload, 1) := o_46 (by1_at (k := 576) (j := 25) lch_9 (by decide +kernel))
theorem dL_law_602 : decode cL_law 602 = .ok (.invokevirtual 76, 3) := o_182 (by3_at (k := 576) (j := 26) lch_9 (by decide +kernel))
theorem dL_law_605 : decode cL_law 605 = .ok (.pop, 1) := o_87 (by1_at (k := 576) (j := 29) lch_9 (by decide +kernel))
theorem dL_law_606 : decode cL_law 606 = .ok (.goto 775, 3) := o_167 (by3_at (k := 576) (j := 30) lch_9 (by decide +kernel))
theorem dL_law_609 : decode cL_law 609 = .ok (.aload_n 1, 1) := o_43 (by1_at (k := 576) (j := 33) lch_9 (by decide +kernel))
theorem dL_law_610 : decode cL_law 610 = .ok (.aload_n 0, 1) := o_42 (by1_at (k := 576) (j := 34) lch_9 (by decide +kernel))
theorem dL_law_611 : decode cL_law 611 = .ok (.iload_n 3, 1) := o_29 (by1_at (k := 576) (j := 35) lch_9 (by decide +kernel))
theorem dL_law_612 : decode cL_law 612 = .ok (.iconst 1, 1) := o_4 (by1_at (k := 576) (j := 36) lch_9 (by decide +kernel))
theorem dL_law_613 : decode cL_law 613 = .ok (.iadd, 1) := o_96 (by1_at (k := 576) (j := 37) lch_9 (by decide +kernel))
theorem dL_law_614 : decode cL_law 614 = .ok (.iaload, 1) := o_46 (by1_at (k := 576) (j := 38) lch_9 (by decide +kernel))
theorem dL_law_615 : decode cL_law 615 = .ok (.aload_n 0, 1) := o_42 (by1_at (k := 576) (j := 39) lch_9 (by decide +kernel))
theorem dL_law_616 : decode cL_law 616 = .ok (.iload_n 3, 1) := o_29 (by1_at (k := 576) (j := 40) lch_9 (by decide +kernel))
theorem dL_law_617 : decode cL_law 617 = .ok (.iconst 2, 1) := o_5 (by1_at (k := 576) (j := 41) lch_9 (by decide +kernel))
theorem dL_law_618 : decode cL_law 618 = .ok (.iadd, 1) := o_96 (by1_at (k := 576) (j := 42) lch_9 (by decide +kernel))
theorem dL_law_619 : decode cL_law 619 = .ok (.iaload, 1) := o_46 (by1_at (k := 576) (j := 43) lch_9 (by decide +kernel))
theorem dL_law_620 : decode cL_law 620 = .ok (.invokevirtual 77, 3) := o_182 (by3_at (k := 576) (j := 44) lch_9 (by decide +kernel))
theorem dL_law_623 : decode cL_law 623 = .ok (.pop, 1) := o_87 (by1_at (k := 576) (j := 47) lch_9 (by decide +kernel))
theorem dL_law_624 : decode cL_law 624 = .ok (.aload_n 2, 1) := o_44 (by1_at (k := 576) (j := 48) lch_9 (by decide +kernel))
theorem dL_law_625 : decode cL_law 625 = .ok (.aload_n 0, 1) := o_42 (by1_at (k := 576) (j := 49) lch_9 (by decide +kernel))
theorem dL_law_626 : decode cL_law 626 = .ok (.iload_n 3, 1) := o_29 (by1_at (k := 576) (j := 50) lch_9 (by decide +kernel))
theorem dL_law_627 : decode cL_law 627 = .ok (.iconst 1, 1) := o_4 (by1_at (k := 576) (j := 51) lch_9 (by decide +kernel))
theorem dL_law_628 : decode cL_law 628 = .ok (.iadd, 1) := o_96 (by1_at (k := 576) (j := 52) lch_9 (by decide +kernel))
theorem dL_law_629 : decode cL_law 629 = .ok (.iaload, 1) := o_46 (by1_at (k := 576) (j := 53) lch_9 (by decide +kernel))
theorem dL_law_630 : decode cL_law 630 = .ok (.aload_n 0, 1) := o_42 (by1_at (k := 576) (j := 54) lch_9 (by decide +kernel))
theorem dL_law_631 : decode cL_law 631 = .ok (.iload_n 3, 1) := o_29 (by1_at (k := 576) (j := 55) lch_9 (by decide +kernel))
theorem dL_law_632 : decode cL_law 632 = .ok (.iconst 2, 1) := o_5 (by1_at (k := 576) (j := 56) lch_9 (by decide +kernel))
theorem dL_law_633 : decode cL_law 633 = .ok (.iadd, 1) := o_96 (by1_at (k := 576) (j := 57) lch_9 (by decide +kernel))
theorem dL_law_634 : decode cL_law 634 = .ok (.iaload, 1) := o_46 (by1_at (k := 576) (j := 58) lch_9 (by decide +kernel))
theorem dL_law_635 : decode cL_law 635 = .ok (.invokevirtual 80, 3) := o_182 (by3_at (k := 576) (j := 59) lch_9 (by decide +kernel))
theorem dL_law_638 : decode cL_law 638 = .ok (.pop, 1) := o_87 (by1_at (k := 576) (j := 62) lch_9 (by decide +kernel))
theorem dL_law_639 : decode cL_law 639 = .ok (.goto 742, 3) := o_167 (by3_at (k := 576) (j := 63) lch_9 (by decide +kernel))
theorem dL_law_642 : decode cL_law 642 = .ok (.aload_n 1, 1) := o_43 (by1_at (k := 640) (j := 2) lch_10 (by decide +kernel))
theorem dL_law_643 : decode cL_law 643 = .ok (.aload_n 0, 1) := o_42 (by1_at (k := 640) (j := 3) lch_10 (by decide +kernel))
theorem dL_law_644 : decode cL_law 644 = .ok (.iload_n 3, 1) := o_29 (by1_at (k := 640) (j := 4) lch_10 (by decide +kernel))
theorem dL_law_645 : decode cL_law 645 = .ok (.iconst 1, 1) := o_4 (by1_at (k := 640) (j := 5) lch_10 (by decide +kernel))
theorem dL_law_646 : decode cL_law 646 = .ok (.iadd, 1) := o_96 (by1_at (k := 640) (j := 6) lch_10 (by decide +kernel))
theorem dL_law_647 : decode cL_law 647 = .ok (.iaload, 1) := o_46 (by1_at (k := 640) (j := 7) lch_10 (by decide +kernel))
theorem dL_law_648 : decode cL_law 648 = .ok (.aload_n 0, 1) := o_42 (by1_at (k := 640) (j := 8) lch_10 (by decide +kernel))
theorem dL_law_649 : decode cL_law 649 = .ok (.iload_n 3, 1) := o_29 (by1_at (k := 640) (j := 9) lch_10 (by decide +kernel))
theorem dL_law_650 : decode cL_law 650 = .ok (.iconst 2, 1) := o_5 (by1_at (k := 640) (j := 10) lch_10 (by decide +kernel))
theorem dL_law_651 : decode cL_law 651 = .ok (.iadd, 1) := o_96 (by1_at (k := 640) (j := 11) lch_10 (by decide +kernel))
theorem dL_law_652 : decode cL_law 652 = .ok (.iaload, 1) := o_46 (by1_at (k := 640) (j := 12) lch_10 (by decide +kernel))
theorem dL_law_653 : decode cL_law 653 = .ok (.aload_n 0, 1) := o_42 (by1_at (k := 640) (j := 13) lch_10 (by decide +kernel))
theorem dL_law_654 : decode cL_law 654 = .ok (.iload_n 3, 1) := o_29 (by1_at (k := 640) (j := 14) lch_10 (by decide +kernel))
theorem dL_law_655 : decode cL_law 655 = .ok (.iconst 3, 1) := o_6 (by1_at (k := 640) (j := 15) lch_10 (by decide +kernel))
theorem dL_law_656 : decode cL_law 656 = .ok (.iadd, 1) := o_96 (by1_at (k := 640) (j := 16) lch_10 (by decide +kernel))
theorem dL_law_657 : decode cL_law 657 = .ok (.iaload, 1) := o_46 (by1_at (k := 640) (j := 17) lch_10 (by decide +kernel))
theorem dL_law_658 : decode cL_law 658 = .ok (.aload_n 0, 1) := o_42 (by1_at (k := 640) (j := 18) lch_10 (by decide +kernel))
theorem dL_law_659 : decode cL_law 659 = .ok (.iload_n 3, 1) := o_29 (by1_at (k := 640) (j := 19) lch_10 (by decide +kernel))
theorem dL_law_660 : decode cL_law 660 = .ok (.iconst 4, 1) := o_7 (by1_at (k := 640) (j := 20) lch_10 (by decide +kernel))
theorem dL_law_661 : decode cL_law 661 = .ok (.iadd, 1) := o_96 (by1_at (k := 640) (j := 21) lch_10 (by decide +kernel))
theorem dL_law_662 : decode cL_law 662 = .ok (.iaload, 1) := o_46 (by1_at (k := 640) (j := 22) lch_10 (by decide +kernel))
theorem dL_law_663 : decode cL_law 663 = .ok (.invokevirtual 81, 3) := o_182 (by3_at (k := 640) (j := 23) lch_10 (by decide +kernel))
theorem dL_law_666 : decode cL_law 666 = .ok (.pop, 1) := o_87 (by1_at (k := 640) (j := 26) lch_10 (by decide +kernel))
theorem dL_law_667 : decode cL_law 667 = .ok (.aload_n 2, 1) := o_44 (by1_at (k := 640) (j := 27) lch_10 (by decide +kernel))
theorem dL_law_668 : decode cL_law 668 = .ok (.aload_n 0, 1) := o_42 (by1_at (k := 640) (j := 28) lch_10 (by decide +kernel))
theorem dL_law_669 : decode cL_law 669 = .ok (.iload_n 3, 1) := o_29 (by1_at (k := 640) (j := 29) lch_10 (by decide +kernel))
theorem dL_law_670 : decode cL_law 670 = .ok (.iconst 1, 1) := o_4 (by1_at (k := 640) (j := 30) lch_10 (by decide +kernel))
theorem dL_law_671 : decode cL_law 671 = .ok (.iadd, 1) := o_96 (by1_at (k := 640) (j := 31) lch_10 (by decide +kernel))
theorem dL_law_672 : decode cL_law 672 = .ok (.iaload, 1) := o_46 (by1_at (k := 640) (j := 32) lch_10 (by decide +kernel))
theorem dL_law_673 : decode cL_law 673 = .ok (.aload_n 0, 1) := o_42 (by1_at (k := 640) (j := 33) lch_10 (by decide +kernel))
theorem dL_law_674 : decode cL_law 674 = .ok (.iload_n 3, 1) := o_29 (by1_at (k := 640) (j := 34) lch_10 (by decide +kernel))
theorem dL_law_675 : decode cL_law 675 = .ok (.iconst 2, 1) := o_5 (by1_at (k := 640) (j := 35) lch_10 (by decide +kernel))
theorem dL_law_676 : decode cL_law 676 = .ok (.iadd, 1) := o_96 (by1_at (k := 640) (j := 36) lch_10 (by decide +kernel))
theorem dL_law_677 : decode cL_law 677 = .ok (.iaload, 1) := o_46 (by1_at (k := 640) (j := 37) lch_10 (by decide +kernel))
theorem dL_law_678 : decode cL_law 678 = .ok (.aload_n 0, 1) := o_42 (by1_at (k := 640) (j := 38) lch_10 (by decide +kernel))
theorem dL_law_679 : decode cL_law 679 = .ok (.iload_n 3, 1) := o_29 (by1_at (k := 640) (j := 39) lch_10 (by decide +kernel))
theorem dL_law_680 : decode cL_law 680 = .ok (.iconst 3, 1) := o_6 (by1_at (k := 640) (j := 40) lch_10 (by decide +kernel))
theorem dL_law_681 : decode cL_law 681 = .ok (.iadd, 1) := o_96 (by1_at (k := 640) (j := 41) lch_10 (by decide +kernel))
theorem dL_law_682 : decode cL_law 682 = .ok (.iaload, 1) := o_46 (by1_at (k := 640) (j := 42) lch_10 (by decide +kernel))
theorem dL_law_683 : decode cL_law 683 = .ok (.aload_n 0, 1) := o_42 (by1_at (k := 640) (j := 43) lch_10 (by decide +kernel))
theorem dL_law_684 : decode cL_law 684 = .ok (.iload_n 3, 1) := o_29 (by1_at (k := 640) (j := 44) lch_10 (by decide +kernel))
theorem dL_law_685 : decode cL_law 685 = .ok (.iconst 4, 1) := o_7 (by1_at (k := 640) (j := 45) lch_10 (by decide +kernel))
theorem dL_law_686 : decode cL_law 686 = .ok (.iadd, 1) := o_96 (by1_at (k := 640) (j := 46) lch_10 (by decide +kernel))
theorem dL_law_687 : decode cL_law 687 = .ok (.iaload, 1) := o_46 (by1_at (k := 640) (j := 47) lch_10 (by decide +kernel))
theorem dL_law_688 : decode cL_law 688 = .ok (.invokevirtual 85, 3) := o_182 (by3_at (k := 640) (j := 48) lch_10 (by decide +kernel))
theorem dL_law_691 : decode cL_law 691 = .ok (.pop, 1) := o_87 (by1_at (k := 640) (j := 51) lch_10 (by decide +kernel))
theorem dL_law_692 : decode cL_law 692 = .ok (.goto 689, 3) := o_167 (by3_at (k := 640) (j := 52) lch_10 (by decide +kernel))
theorem dL_law_695 : decode cL_law 695 = .ok (.aload_n 1, 1) := o_43 (by1_at (k := 640) (j := 55) lch_10 (by decide +kernel))
theorem dL_law_696 : decode cL_law 696 = .ok (.aload_n 0, 1) := o_42 (by1_at (k := 640) (j := 56) lch_10 (by decide +kernel))
theorem dL_law_697 : decode cL_law 697 = .ok (.iload_n 3, 1) := o_29 (by1_at (k := 640) (j := 57) lch_10 (by decide +kernel))
theorem dL_law_698 : decode cL_law 698 = .ok (.iconst 1, 1) := o_4 (by1_at (k := 640) (j := 58) lch_10 (by decide +kernel))
theorem dL_law_699 : decode cL_law 699 = .ok (.iadd, 1) := o_96 (by1_at (k := 640) (j := 59) lch_10 (by decide +kernel))
theorem dL_law_700 : decode cL_law 700 = .ok (.iaload, 1) := o_46 (by1_at (k := 640) (j := 60) lch_10 (by decide +kernel))
theorem dL_law_701 : decode cL_law 701 = .ok (.invokevirtual 86, 3) := o_182 (by3_at (k := 640) (j := 61) lch_10 (by decide +kernel))
theorem dL_law_704 : decode cL_law 704 = .ok (.pop, 1) := o_87 (by1_at (k := 704) (j := 0) lch_11 (by decide +kernel))
theorem dL_law_705 : decode cL_law 705 = .ok (.aload_n 2, 1) := o_44 (by1_at (k := 704) (j := 1) lch_11 (by decide +kernel))
theorem dL_law_706 : decode cL_law 706 = .ok (.aload_n 0, 1) := o_42 (by1_at (k := 704) (j := 2) lch_11 (by decide +kernel))
theorem dL_law_707 : decode cL_law 707 = .ok (.iload_n 3, 1) := o_29 (by1_at (k := 704) (j := 3) lch_11 (by decide +kernel))
theorem dL_law_708 : decode cL_law 708 = .ok (.iconst 1, 1) := o_4 (by1_at (k := 704) (j := 4) lch_11 (by decide +kernel))
theorem dL_law_709 : decode cL_law 709 = .ok (.iadd, 1) := o_96 (by1_at (k := 704) (j := 5) lch_11 (by decide +kernel))
theorem dL_law_710 : decode cL_law 710 = .ok (.iaload, 1) := o_46 (by1_at (k := 704) (j := 6) lch_11 (by decide +kernel))
theorem dL_law_711 : decode cL_law 711 = .ok (.invokevirtual 89, 3) := o_182 (by3_at (k := 704) (j := 7) lch_11 (by decide +kernel))
theorem dL_law_714 : decode cL_law 714 = .ok (.pop, 1) := o_87 (by1_at (k := 704) (j := 10) lch_11 (by decide +kernel))
theorem dL_law_715 : decode cL_law 715 = .ok (.goto 666, 3) := o_167 (by3_at (k := 704) (j := 11) lch_11 (by decide +kernel))
theorem dL_law_718 : decode cL_law 718 = .ok (.aload_n 1, 1) := o_43 (by1_at (k := 704) (j := 14) lch_11 (by decide +kernel))
theorem dL_law_719 : decode cL_law 719 = .ok (.aload_n 0, 1) := o_42 (by1_at (k := 704) (j := 15) lch_11 (by decide +kernel))
theorem dL_law_720 : decode cL_law 720 = .ok (.iload_n 3, 1) := o_29 (by1_at (k := 704) (j := 16) lch_11 (by decide +kernel))
theorem dL_law_721 : decode cL_law 721 = .ok (.iconst 1, 1) := o_4 (by1_at (k := 704) (j := 17) lch_11 (by decide +kernel))
theorem dL_law_722 : decode cL_law 722 = .ok (.iadd, 1) := o_96 (by1_at (k := 704) (j := 18) lch_11 (by decide +kernel))
theorem dL_law_723 : decode cL_law 723 = .ok (.iaload, 1) := o_46 (by1_at (k := 704) (j := 19) lch_11 (by decide +kernel))
theorem dL_law_724 : decode cL_law 724 = .ok (.aload_n 0, 1) := o_42 (by1_at (k := 704) (j := 20) lch_11 (by decide +kernel))
theorem dL_law_725 : decode cL_law 725 = .ok (.iload_n 3, 1) := o_29 (by1_at (k := 704) (j := 21) lch_11 (by decide +kernel))
theorem dL_law_726 : decode cL_law 726 = .ok (.iconst 2, 1) := o_5 (by1_at (k := 704) (j := 22) lch_11 (by decide +kernel))
theorem dL_law_727 : decode cL_law 727 = .ok (.iadd, 1) := o_96 (by1_at (k := 704) (j := 23) lch_11 (by decide +kernel))
theorem dL_law_728 : decode cL_law 728 = .ok (.iaload, 1) := o_46 (by1_at (k := 704) (j := 24) lch_11 (by decide +kernel))
theorem dL_law_729 : decode cL_law 729 = .ok (.invokevirtual 90, 3) := o_182 (by3_at (k := 704) (j := 25) lch_11 (by decide +kernel))
theorem dL_law_732 : decode cL_law 732 = .ok (.pop, 1) := o_87 (by1_at (k := 704) (j := 28) lch_11 (by decide +kernel))
theorem dL_law_733 : decode cL_law 733 = .ok (.aload_n 2, 1) := o_44 (by1_at (k := 704) (j := 29) lch_11 (by decide +kernel))
theorem dL_law_734 : decode cL_law 734 = .ok (.aload_n 0, 1) := o_42 (by1_at (k := 704) (j := 30) lch_11 (by decide +kernel))
theorem dL_law_735 : decode cL_law 735 = .ok (.iload_n 3, 1) := o_29 (by1_at (k := 704) (j := 31) lch_11 (by decide +kernel))
theorem dL_law_736 : decode cL_law 736 = .ok (.iconst 1, 1) := o_4 (by1_at (k := 704) (j := 32) lch_11 (by decide +kernel))
theorem dL_law_737 : decode cL_law 737 = .ok (.iadd, 1) := o_96 (by1_at (k := 704) (j := 33) lch_11 (by decide +kernel))
theorem dL_law_738 : decode cL_law 738 = .ok (.iaload, 1) := o_46 (by1_at (k := 704) (j := 34) lch_11 (by decide +kernel))
theorem dL_law_739 : decode cL_law 739 = .ok (.aload_n 0, 1) := o_42 (by1_at (k := 704) (j := 35) lch_11 (by decide +kernel))
theorem dL_law_740 : decode cL_law 740 = .ok (.iload_n 3, 1) := o_29 (by1_at (k := 704) (j := 36) lch_11 (by decide +kernel))
theorem dL_law_741 : decode cL_law 741 = .ok (.iconst 2, 1) := o_5 (by1_at (k := 704) (j := 37) lch_11 (by decide +kernel))
theorem dL_law_742 : decode cL_law 742 = .ok (.iadd, 1) := o_96 (by1_at (k := 704) (j := 38) lch_11 (by decide +kernel))
theorem dL_law_743 : decode cL_law 743 = .ok (.iaload, 1) := o_46 (by1_at (k := 704) (j := 39) lch_11 (by decide +kernel))
theorem dL_law_744 : decode cL_law 744 = .ok (.invokevirtual 93, 3) := o_182 (by3_at (k := 704) (j := 40) lch_11 (by decide +kernel))
theorem dL_law_747 : decode cL_law 747 = .ok (.pop, 1) := o_87 (by1_at (k := 704) (j := 43) lch_11 (by decide +kernel))
theorem dL_law_748 : decode cL_law 748 = .ok (.goto 633, 3) := o_167 (by3_at (k := 704) (j := 44) lch_11 (by decide +kernel))
theorem dL_law_751 : decode cL_law 751 = .ok (.aload_n 1, 1) := o_43 (by1_at (k := 704) (j := 47) lch_11 (by decide +kernel))
theorem dL_law_752 : decode cL_law 752 = .ok (.aload_n 0, 1) := o_42 (by1_at (k := 704) (j := 48) lch_11 (by decide +kernel))
theorem dL_law_753 : decode cL_law 753 = .ok (.iload_n 3, 1) := o_29 (by1_at (k := 704) (j := 49) lch_11 (by decide +kernel))
theorem dL_law_754 : decode cL_law 754 = .ok (.iconst 1, 1) := o_4 (by1_at (k := 704) (j := 50) lch_11 (by decide +kernel))
theorem dL_law_755 : decode cL_law 755 = .ok (.iadd, 1) := o_96 (by1_at (k := 704) (j := 51) lch_11 (by decide +kernel))
theorem dL_law_756 : decode cL_law 756 = .ok (.iaload, 1) := o_46 (by1_at (k := 704) (j := 52) lch_11 (by decide +kernel))
theorem dL_law_757 : decode cL_law 757 = .ok (.aload_n 0, 1) := o_42 (by1_at (k := 704) (j := 53) lch_11 (by decide +kernel))
theorem dL_law_758 : decode cL_law 758 = .ok (.iload_n 3, 1) := o_29 (by1_at (k := 704) (j := 54) lch_11 (by decide +kernel))
theorem dL_law_759 : decode cL_law 759 = .ok (.iconst 2, 1) := o_5 (by1_at (k := 704) (j := 55) lch_11 (by decide +kernel))
theorem dL_law_760 : decode cL_law 760 = .ok (.iadd, 1) := o_96 (by1_at (k := 704) (j := 56) lch_11 (by decide +kernel))
theorem dL_law_761 : decode cL_law 761 = .ok (.iaload, 1) := o_46 (by1_at (k := 704) (j := 57) lch_11 (by decide +kernel))
theorem dL_law_762 : decode cL_law 762 = .ok (.invokevirtual 94, 3) := o_182 (by3_at (k := 704) (j := 58) lch_11 (by decide +kernel))
theorem dL_law_765 : decode cL_law 765 = .ok (.pop, 1) := o_87 (by1_at (k := 704) (j := 61) lch_11 (by decide +kernel))
theorem dL_law_766 : decode cL_law 766 = .ok (.aload_n 2, 1) := o_44 (by1_at (k := 704) (j := 62) lch_11 (by decide +kernel))
theorem dL_law_767 : decode cL_law 767 = .ok (.aload_n 0, 1) := o_42 (by1_at (k := 704) (j := 63) lch_11 (by decide +kernel))
theorem dL_law_768 : decode cL_law 768 = .ok (.iload_n 3, 1) := o_29 (by1_at (k := 768) (j := 0) lch_12 (by decide +kernel))
theorem dL_law_769 : decode cL_law 769 = .ok (.iconst 1, 1) := o_4 (by1_at (k := 768) (j := 1) lch_12 (by decide +kernel))
theorem dL_law_770 : decode cL_law 770 = .ok (.iadd, 1) := o_96 (by1_at (k := 768) (j := 2) lch_12 (by decide +kernel))
theorem dL_law_771 : decode cL_law 771 = .ok (.iaload, 1) := o_46 (by1_at (k := 768) (j := 3) lch_12 (by decide +kernel))
theorem dL_law_772 : decode cL_law 772 = .ok (.aload_n 0, 1) := o_42 (by1_at (k := 768) (j := 4) lch_12 (by decide +kernel))
theorem dL_law_773 : decode cL_law 773 = .ok (.iload_n 3, 1) := o_29 (by1_at (k := 768) (j := 5) lch_12 (by decide +kernel))
theorem dL_law_774 : decode cL_law 774 = .ok (.iconst 2, 1) := o_5 (by1_at (k := 768) (j := 6) lch_12 (by decide +kernel))
theorem dL_law_775 : decode cL_law 775 = .ok (.iadd, 1) := o_96 (by1_at (k := 768) (j := 7) lch_12 (by decide +kernel))
theorem dL_law_776 : decode cL_law 776 = .ok (.iaload, 1) := o_46 (by1_at (k := 768) (j := 8) lch_12 (by decide +kernel))
theorem dL_law_777 : decode cL_law 777 = .ok (.invokevirtual 97, 3) := o_182 (by3_at (k := 768) (j := 9) lch_12 (by decide +kernel))
theorem dL_law_780 : decode cL_law 780 = .ok (.pop, 1) := o_87 (by1_at (k := 768) (j := 12) lch_12 (by decide +kernel))
theorem dL_law_781 : decode cL_law 781 = .ok (.goto 600, 3) := o_167 (by3_at (k := 768) (j := 13) lch_12 (by decide +kernel))
theorem dL_law_784 : decode cL_law 784 = .ok (.aload_n 1, 1) := o_43 (by1_at (k := 768) (j := 16) lch_12 (by decide +kernel))
theorem dL_law_785 : decode cL_law 785 = .ok (.aload_n 0, 1) := o_42 (by1_at (k := 768) (j := 17) lch_12 (by decide +kernel))
theorem dL_law_786 : decode cL_law 786 = .ok (.iload_n 3, 1) := o_29 (by1_at (k := 768) (j := 18) lch_12 (by decide +kernel))
theorem dL_law_787 : decode cL_law 787 = .ok (.iconst 1, 1) := o_4 (by1_at (k := 768) (j := 19) lch_12 (by decide +kernel))
theorem dL_law_788 : decode cL_law 788 = .ok (.iadd, 1) := o_96 (by1_at (k := 768) (j := 20) lch_12 (by decide +kernel))
theorem dL_law_789 : decode cL_law 789 = .ok (.iaload, 1) := o_46 (by1_at (k := 768) (j := 21) lch_12 (by decide +kernel))
theorem dL_law_790 : decode cL_law 790 = .ok (.aload_n 0, 1) := o_42 (by1_at (k := 768) (j := 22) lch_12 (by decide +kernel))
theorem dL_law_791 : decode cL_law 791 = .ok (.iload_n 3, 1) := o_29 (by1_at (k := 768) (j := 23) lch_12 (by decide +kernel))
theorem dL_law_792 : decode cL_law 792 = .ok (.iconst 2, 1) := o_5 (by1_at (k := 768) (j := 24) lch_12 (by decide +kernel))
theorem dL_law_793 : decode cL_law 793 = .ok (.iadd, 1) := o_96 (by1_at (k := 768) (j := 25) lch_12 (by decide +kernel))
theorem dL_law_794 : decode cL_law 794 = .ok (.iaload, 1) := o_46 (by1_at (k := 768) (j := 26) lch_12 (by decide +kernel))
theorem dL_law_795 : decode cL_law 795 = .ok (.aload_n 0, 1) := o_42 (by1_at (k := 768) (j := 27) lch_12 (by decide +kernel))
theorem dL_law_796 : decode cL_law 796 = .ok (.iload_n 3, 1) := o_29 (by1_at (k := 768) (j := 28) lch_12 (by decide +kernel))
theorem dL_law_797 : decode cL_law 797 = .ok (.iconst 3, 1) := o_6 (by1_at (k := 768) (j := 29) lch_12 (by decide +kernel))
theorem dL_law_798 : decode cL_law 798 = .ok (.iadd, 1) := o_96 (by1_at (k := 768) (j := 30) lch_12 (by decide +kernel))
theorem dL_law_799 : decode cL_law 799 = .ok (.iaload, 1) := o_46 (by1_at (k := 768) (j := 31) lch_12 (by decide +kernel))
theorem dL_law_800 : decode cL_law 800 = .ok (.invokevirtual 98, 3) := o_182 (by3_at (k := 768) (j := 32) lch_12 (by decide +kernel))
theorem dL_law_803 : decode cL_law 803 = .ok (.pop, 1) := o_87 (by1_at (k := 768) (j := 35) lch_12 (by decide +kernel))
theorem dL_law_804 : decode cL_law 804 = .ok (.aload_n 2, 1) := o_44 (by1_at (k := 768) (j := 36) lch_12 (by decide +kernel))
theorem dL_law_805 : decode cL_law 805 = .ok (.aload_n 0, 1) := o_42 (by1_at (k := 768) (j := 37) lch_12 (by decide +kernel))
theorem dL_law_806 : decode cL_law 806 = .ok (.iload_n 3, 1) := o_29 (by1_at (k := 768) (j := 38) lch_12 (by decide +kernel))
theorem dL_law_807 : decode cL_law 807 = .ok (.iconst 1, 1) := o_4 (by1_at (k := 768) (j := 39) lch_12 (by decide +kernel))
theorem dL_law_808 : decode cL_law 808 = .ok (.iadd, 1) := o_96 (by1_at (k := 768) (j := 40) lch_12 (by decide +kernel))
theorem dL_law_809 : decode cL_law 809 = .ok (.iaload, 1) := o_46 (by1_at (k := 768) (j := 41) lch_12 (by decide +kernel))
theorem dL_law_810 : decode cL_law 810 = .ok (.aload_n 0, 1) := o_42 (by1_at (k := 768) (j := 42) lch_12 (by decide +kernel))
theorem dL_law_811 : decode cL_law 811 = .ok (.iload_n 3, 1) := o_29 (by1_at (k := 768) (j := 43) lch_12 (by decide +kernel))
theorem dL_law_812 : decode cL_law 812 = .ok (.iconst 2, 1) := o_5 (by1_at (k := 768) (j := 44) lch_12 (by decide +kernel))
theorem dL_law_813 : decode cL_law 813 = .ok (.iadd, 1) := o_96 (by1_at (k := 768) (j := 45) lch_12 (by decide +kernel))
theorem dL_law_814 : decode cL_law 814 = .ok (.iaload, 1) := o_46 (by1_at (k := 768) (j := 46) lch_12 (by decide +kernel))
theorem dL_law_815 : decode cL_law 815 = .ok (.aload_n 0, 1) := o_42 (by1_at (k := 768) (j := 47) lch_12 (by decide +kernel))
theorem dL_law_816 : decode cL_law 816 = .ok (.iload_n 3, 1) := o_29 (by1_at (k := 768) (j := 48) lch_12 (by decide +kernel))
theorem dL_law_817 : decode cL_law 817 = .ok (.iconst 3, 1) := o_6 (by1_at (k := 768) (j := 49) lch_12 (by decide +kernel))
theorem dL_law_818 : decode cL_law 818 = .ok (.iadd, 1) := o_96 (by1_at (k := 768) (j := 50) lch_12 (by decide +kernel))
theorem dL_law_819 : decode cL_law 819 = .ok (.iaload, 1) := o_46 (by1_at (k := 768) (j := 51) lch_12 (by decide +kernel))
theorem dL_law_820 : decode cL_law 820 = .ok (.invokevirtual 101, 3) := o_182 (by3_at (k := 768) (j := 52) lch_12 (by decide +kernel))
theorem dL_law_823 : decode cL_law 823 = .ok (.pop, 1) := o_87 (by1_at (k := 768) (j := 55) lch_12 (by decide +kernel))
theorem dL_law_824 : decode cL_law 824 = .ok (.goto 557, 3) := o_167 (by3_at (k := 768) (j := 56) lch_12 (by decide +kernel))
theorem dL_law_827 : decode cL_law 827 = .ok (.aload_n 1, 1) := o_43 (by1_at (k := 768) (j := 59) lch_12 (by decide +kernel))
theorem dL_law_828 : decode cL_law 828 = .ok (.invokevirtual 102, 3) := o_182 (by3_at (k := 768) (j := 60) lch_12 (by decide +kernel))
theorem dL_law_831 : decode cL_law 831 = .ok (.pop, 1) := o_87 (by1_at (k := 768) (j := 63) lch_12 (by decide +kernel))
theorem dL_law_832 : decode cL_law 832 = .ok (.aload_n 2, 1) := o_44 (by1_at (k := 832) (j := 0) lch_13 (by decide +kernel))
theorem dL_law_833 : decode cL_law 833 = .ok (.invokevirtual 105, 3) := o_182 (by3_at (k := 832) (j := 1) lch_13 (by decide +kernel))
theorem dL_law_836 : decode cL_law 836 = .ok (.pop, 1) := o_87 (by1_at (k := 832) (j := 4) lch_13 (by decide +kernel))
theorem dL_law_837 : decode cL_law 837 = .ok (.goto 544, 3) := o_167 (by3_at (k := 832) (j := 5) lch_13 (by decide +kernel))
theorem dL_law_840 : decode cL_law 840 = .ok (.aload_n 1, 1) := o_43 (by1_at (k := 832) (j := 8) lch_13 (by decide +kernel))
theorem dL_law_841 : decode cL_law 841 = .ok (.aload_n 0, 1) := o_42 (by1_at (k := 832) (j := 9) lch_13 (by decide +kernel))
theorem dL_law_842 : decode cL_law 842 = .ok (.iload_n 3, 1) := o_29 (by1_at (k := 832) (j := 10) lch_13 (by decide +kernel))
theorem dL_law_843 : decode cL_law 843 = .ok (.iconst 1, 1) := o_4 (by1_at (k := 832) (j := 11) lch_13 (by decide +kernel))
theorem dL_law_844 : decode cL_law 844 = .ok (.iadd, 1) := o_96 (by1_at (k := 832) (j := 12) lch_13 (by decide +kernel))
theorem dL_law_845 : decode cL_law 845 = .ok (.iaload, 1) := o_46 (by1_at (k := 832) (j := 13) lch_13 (by decide +kernel))
theorem dL_law_846 : decode cL_law 846 = .ok (.aload_n 0, 1) := o_42 (by1_at (k := 832) (j := 14) lch_13 (by decide +kernel))
theorem dL_law_847 : decode cL_law 847 = .ok (.iload_n 3, 1) := o_29 (by1_at (k := 832) (j := 15) lch_13 (by decide +kernel))
theorem dL_law_848 : decode cL_law 848 = .ok (.iconst 2, 1) := o_5 (by1_at (k := 832) (j := 16) lch_13 (by decide +kernel))
theorem dL_law_849 : decode cL_law 849 = .ok (.iadd, 1) := o_96 (by1_at (k := 832) (j := 17) lch_13 (by decide +kernel))
theorem dL_law_850 : decode cL_law 850 = .ok (.iaload, 1) := o_46 (by1_at (k := 832) (j := 18) lch_13 (by decide +kernel))
theorem dL_law_851 : decode cL_law 851 = .ok (.aload_n 0, 1) := o_42 (by1_at (k := 832) (j := 19) lch_13 (by decide +kernel))
theorem dL_law_852 : decode cL_law 852 = .ok (.iload_n 3, 1) := o_29 (by1_at (k := 832) (j := 20) lch_13 (by decide +kernel))
theorem dL_law_853 : decode cL_law 853 = .ok (.iconst 3, 1) := o_6 (by1_at (k := 832) (j := 21) lch_13 (by decide +kernel))
theorem dL_law_854 : decode cL_law 854 = .ok (.iadd, 1) := o_96 (by1_at (k := 832) (j := 22) lch_13 (by decide +kernel))
theorem dL_law_855 : decode cL_law 855 = .ok (.iaload, 1) := o_46 (by1_at (k := 832) (j := 23) lch_13 (by decide +kernel))
theorem dL_law_856 : decode cL_law 856 = .ok (.invokevirtual 106, 3) := o_182 (by3_at (k := 832) (j := 24) lch_13 (by decide +kernel))
theorem dL_law_859 : decode cL_law 859 = .ok (.pop2, 1) := o_88 (by1_at (k := 832) (j := 27) lch_13 (by decide +kernel))
theorem dL_law_860 : decode cL_law 860 = .ok (.aload_n 2, 1) := o_44 (by1_at (k := 832) (j := 28) lch_13 (by decide +kernel))
theorem dL_law_861 : decode cL_law 861 = .ok (.aload_n 0, 1) := o_42 (by1_at (k := 832) (j := 29) lch_13 (by decide +kernel))
theorem dL_law_862 : decode cL_law 862 = .ok (.iload_n 3, 1) := o_29 (by1_at (k := 832) (j := 30) lch_13 (by decide +kernel))
theorem dL_law_863 : decode cL_law 863 = .ok (.iconst 1, 1) := o_4 (by1_at (k := 832) (j := 31) lch_13 (by decide +kernel))
theorem dL_law_864 : decode cL_law 864 = .ok (.iadd, 1) := o_96 (by1_at (k := 832) (j := 32) lch_13 (by decide +kernel))
theorem dL_law_865 : decode cL_law 865 = .ok (.iaload, 1) := o_46 (by1_at (k := 832) (j := 33) lch_13 (by decide +kernel))
theorem dL_law_866 : decode cL_law 866 = .ok (.aload_n 0, 1) := o_42 (by1_at (k := 832) (j := 34) lch_13 (by decide +kernel))
theorem dL_law_867 : decode cL_law 867 = .ok (.iload_n 3, 1) := o_29 (by1_at (k := 832) (j := 35) lch_13 (by decide +kernel))
theorem dL_law_868 : decode cL_law 868 = .ok (.iconst 2, 1) := o_5 (by1_at (k := 832) (j := 36) lch_13 (by decide +kernel))
theorem dL_law_869 : decode cL_law 869 = .ok (.iadd, 1) := o_96 (by1_at (k := 832) (j := 37) lch_13 (by decide +kernel))
theorem dL_law_870 : decode cL_law 870 = .ok (.iaload, 1) := o_46 (by1_at (k := 832) (j := 38) lch_13 (by decide +kernel))
theorem dL_law_871 : decode cL_law 871 = .ok (.aload_n 0, 1) := o_42 (by1_at (k := 832) (j := 39) lch_13 (by decide +kernel))
theorem dL_law_872 : decode cL_law 872 = .ok (.iload_n 3, 1) := o_29 (by1_at (k := 832) (j := 40) lch_13 (by decide +kernel))
theorem dL_law_873 : decode cL_law 873 = .ok (.iconst 3, 1) := o_6 (by1_at (k := 832) (j := 41) lch_13 (by decide +kernel))
theorem dL_law_874 : decode cL_law 874 = .ok (.iadd, 1) := o_96 (by1_at (k := 832) (j := 42) lch_13 (by decide +kernel))
theorem dL_law_875 : decode cL_law 875 = .ok (.iaload, 1) := o_46 (by1_at (k := 832) (j := 43) lch_13 (by decide +kernel))
theorem dL_law_876 : decode cL_law 876 = .ok (.invokevirtual 110, 3) := o_182 (by3_at (k := 832) (j := 44) lch_13 (by decide +kernel))
theorem dL_law_879 : decode cL_law 879 = .ok (.pop2, 1) := o_88 (by1_at (k := 832) (j := 47) lch_13 (by decide +kernel))
theorem dL_law_880 : decode cL_law 880 = .ok (.goto 501, 3) := o_167 (by3_at (k := 832) (j := 48) lch_13 (by decide +kernel))
theorem dL_law_883 : decode cL_law 883 = .ok (.aload_n 1, 1) := o_43 (by1_at (k := 832) (j := 51) lch_13 (by decide +kernel))
theorem dL_law_884 : decode cL_law 884 = .ok (.aload_n 0, 1) := o_42 (by1_at (k := 832) (j := 52) lch_13 (by decide +kernel))
theorem dL_law_885 : decode cL_law 885 = .ok (.iload_n 3, 1) := o_29 (by1_at (k := 832) (j := 53) lch_13 (by decide +kernel))
theorem dL_law_886 : decode cL_law 886 = .ok (.iconst 1, 1) := o_4 (by1_at (k := 832) (j := 54) lch_13 (by decide +kernel))
theorem dL_law_887 : decode cL_law 887 = .ok (.iadd, 1) := o_96 (by1_at (k := 832) (j := 55) lch_13 (by decide +kernel))
theorem dL_law_888 : decode cL_law 888 = .ok (.iaload, 1) := o_46 (by1_at (k := 832) (j := 56) lch_13 (by decide +kernel))
theorem dL_law_889 : decode cL_law 889 = .ok (.aload_n 0, 1) := o_42 (by1_at (k := 832) (j := 57) lch_13 (by decide +kernel))
theorem dL_law_890 : decode cL_law 890 = .ok (.iload_n 3, 1) := o_29 (by1_at (k := 832) (j := 58) lch_13 (by decide +kernel))
theorem dL_law_891 : decode cL_law 891 = .ok (.iconst 2, 1) := o_5 (by1_at (k := 832) (j := 59) lch_13 (by decide +kernel))
theorem dL_law_892 : decode cL_law 892 = .ok (.iadd, 1) := o_96 (by1_at (k := 832) (j := 60) lch_13 (by decide +kernel))
theorem dL_law_893 : decode cL_law 893 = .ok (.iaload, 1) := o_46 (by1_at (k := 832) (j := 61) lch_13 (by decide +kernel))
theorem dL_law_894 : decode cL_law 894 = .ok (.invokevirtual 111, 3) := o_182 (by3_at (k := 832) (j := 62) lch_13 (by decide +kernel))
theorem dL_law_897 : decode cL_law 897 = .ok (.pop2, 1) := o_88 (by1_at (k := 896) (j := 1) lch_14 (by decide +kernel))
theorem dL_law_898 : decode cL_law 898 = .ok (.aload_n 2, 1) := o_44 (by1_at (k := 896) (j := 2) lch_14 (by decide +kernel))
theorem dL_law_899 : decode cL_law 899 = .ok (.aload_n 0, 1) := o_42 (by1_at (k := 896) (j := 3) lch_14 (by decide +kernel))
theorem dL_law_900 : decode cL_law 900 = .ok (.iload_n 3, 1) := o_29 (by1_at (k := 896) (j := 4) lch_14 (by decide +kernel))
theorem dL_law_901 : decode cL_law 901 = .ok (.iconst 1, 1) := o_4 (by1_at (k := 896) (j := 5) lch_14 (by decide +kernel))
theorem dL_law_902 : decode cL_law 902 = .ok (.iadd, 1) := o_96 (by1_at (k := 896) (j := 6) lch_14 (by decide +kernel))
theorem dL_law_903 : decode cL_law 903 = .ok (.iaload, 1) := o_46 (by1_at (k := 896) (j := 7) lch_14 (by decide +kernel))
theorem dL_law_904 : decode cL_law 904 = .ok (.aload_n 0, 1) := o_42 (by1_at (k := 896) (j := 8) lch_14 (by decide +kernel))
theorem dL_law_905 : decode cL_law 905 = .ok (.iload_n 3, 1) := o_29 (by1_at (k := 896) (j := 9) lch_14 (by decide +kernel))
theorem dL_law_906 : decode cL_law 906 = .ok (.iconst 2, 1) := o_5 (by1_at (k := 896) (j := 10) lch_14 (by decide +kernel))
theorem dL_law_907 : decode cL_law 907 = .ok (.iadd, 1) := o_96 (by1_at (k := 896) (j := 11) lch_14 (by decide +kernel))
theorem dL_law_908 : decode cL_law 908 = .ok (.iaload, 1) := o_46 (by1_at (k := 896) (j := 12) lch_14 (by decide +kernel))
theorem dL_law_909 : decode cL_law 909 = .ok (.invokevirtual 115, 3) := o_182 (by3_at (k := 896) (j := 13) lch_14 (by decide +kernel))
theorem dL_law_912 : decode cL_law 912 = .ok (.pop2, 1) := o_88 (by1_at (k := 896) (j := 16) lch_14 (by decide +kernel))
theorem dL_law_913 : decode cL_law 913 = .ok (.goto 468, 3) := o_167 (by3_at (k := 896) (j := 17) lch_14 (by decide +kernel))
theorem dL_law_916 : decode cL_law 916 = .ok (.aload_n 1, 1) := o_43 (by1_at (k := 896) (j := 20) lch_14 (by decide +kernel))
theorem dL_law_917 : decode cL_law 917 = .ok (.aload_n 0, 1) := o_42 (by1_at (k := 896) (j := 21) lch_14 (by decide +kernel))
theorem dL_law_918 : decode cL_law 918 = .ok (.iload_n 3, 1) := o_29 (by1_at (k := 896) (j := 22) lch_14 (by decide +kernel))
theorem dL_law_919 : decode cL_law 919 = .ok (.iconst 1, 1) := o_4 (by1_at (k := 896) (j := 23) lch_14 (by decide +kernel))
theorem dL_law_920 : decode cL_law 920 = .ok (.iadd, 1) := o_96 (by1_at (k := 896) (j := 24) lch_14 (by decide +kernel))
theorem dL_law_921 : decode cL_law 921 = .ok (.iaload, 1) := o_46 (by1_at (k := 896) (j := 25) lch_14 (by decide +kernel))
theorem dL_law_922 : decode cL_law 922 = .ok (.invokevirtual 116, 3) := o_182 (by3_at (k := 896) (j := 26) lch_14 (by decide +kernel))
theorem dL_law_925 : decode cL_law 925 = .ok (.pop, 1) := o_87 (by1_at (k := 896) (j := 29) lch_14 (by decide +kernel))
theorem dL_law_926 : decode cL_law 926 = .ok (.aload_n 2, 1) := o_44 (by1_at (k := 896) (j := 30) lch_14 (by decide +kernel))
theorem dL_law_927 : decode cL_law 927 = .ok (.aload_n 0, 1) := o_42 (by1_at (k := 896) (j := 31) lch_14 (by decide +kernel))
theorem dL_law_928 : decode cL_law 928 = .ok (.iload_n 3, 1) := o_29 (by1_at (k := 896) (j := 32) lch_14 (by decide +kernel))
theorem dL_law_929 : decode cL_law 929 = .ok (.iconst 1, 1) := o_4 (by1_at (k := 896) (j := 33) lch_14 (by decide +kernel))
theorem dL_law_930 : decode cL_law 930 = .ok (.iadd, 1) := o_96 (by1_at (k := 896) (j := 34) lch_14 (by decide +kernel))
theorem dL_law_931 : decode cL_law 931 = .ok (.iaload, 1) := o_46 (by1_at (k := 896) (j := 35) lch_14 (by decide +kernel))
theorem dL_law_932 : decode cL_law 932 = .ok (.invokevirtual 119, 3) := o_182 (by3_at (k := 896) (j := 36) lch_14 (by decide +kernel))
theorem dL_law_935 : decode cL_law 935 = .ok (.pop, 1) := o_87 (by1_at (k := 896) (j := 39) lch_14 (by decide +kernel))
theorem dL_law_936 : decode cL_law 936 = .ok (.goto 445, 3) := o_167 (by3_at (k := 896) (j := 40) lch_14 (by decide +kernel))
theorem dL_law_939 : decode cL_law 939 = .ok (.aload_n 1, 1) := o_43 (by1_at (k := 896) (j := 43) lch_14 (by decide +kernel))
theorem dL_law_940 : decode cL_law 940 = .ok (.invokevirtual 120, 3) := o_182 (by3_at (k := 896) (j := 44) lch_14 (by decide +kernel))
theorem dL_law_943 : decode cL_law 943 = .ok (.pop, 1) := o_87 (by1_at (k := 896) (j := 47) lch_14 (by decide +kernel))
theorem dL_law_944 : decode cL_law 944 = .ok (.aload_n 2, 1) := o_44 (by1_at (k := 896) (j := 48) lch_14 (by decide +kernel))
theorem dL_law_945 : decode cL_law 945 = .ok (.invokevirtual 123, 3) := o_182 (by3_at (k := 896) (j := 49) lch_14 (by decide +kernel))
theorem dL_law_948 : decode cL_law 948 = .ok (.pop, 1) := o_87 (by1_at (k := 896) (j := 52) lch_14 (by decide +kernel))
theorem dL_law_949 : decode cL_law 949 = .ok (.goto 432, 3) := o_167 (by3_at (k := 896) (j := 53) lch_14 (by decide +kernel))
theorem dL_law_952 : decode cL_law 952 = .ok (.aload_n 1, 1) := o_43 (by1_at (k := 896) (j := 56) lch_14 (by decide +kernel))
theorem dL_law_953 : decode cL_law 953 = .ok (.aload_n 0, 1) := o_42 (by1_at (k := 896) (j := 57) lch_14 (by decide +kernel))
theorem dL_law_954 : decode cL_law 954 = .ok (.iload_n 3, 1) := o_29 (by1_at (k := 896) (j := 58) lch_14 (by decide +kernel))
theorem dL_law_955 : decode cL_law 955 = .ok (.iconst 1, 1) := o_4 (by1_at (k := 896) (j := 59) lch_14 (by decide +kernel))
theorem dL_law_956 : decode cL_law 956 = .ok (.iadd, 1) := o_96 (by1_at (k := 896) (j := 60) lch_14 (by decide +kernel))
theorem dL_law_957 : decode cL_law 957 = .ok (.iaload, 1) := o_46 (by1_at (k := 896) (j := 61) lch_14 (by decide +kernel))
theorem dL_law_958 : decode cL_law 958 = .ok (.invokevirtual 124, 3) := o_182 (by3_at (k := 896) (j := 62) lch_14 (by decide +kernel))
theorem dL_law_961 : decode cL_law 961 = .ok (.pop, 1) := o_87 (by1_at (k := 960) (j := 1) lch_15 (by decide +kernel))
theorem dL_law_962 : decode cL_law 962 = .ok (.aload_n 2, 1) := o_44 (by1_at (k := 960) (j := 2) lch_15 (by decide +kernel))
theorem dL_law_963 : decode cL_law 963 = .ok (.aload_n 0, 1) := o_42 (by1_at (k := 960) (j := 3) lch_15 (by decide +kernel))
theorem dL_law_964 : decode cL_law 964 = .ok (.iload_n 3, 1) := o_29 (by1_at (k := 960) (j := 4) lch_15 (by decide +kernel))
theorem dL_law_965 : decode cL_law 965 = .ok (.iconst 1, 1) := o_4 (by1_at (k := 960) (j := 5) lch_15 (by decide +kernel))
theorem dL_law_966 : decode cL_law 966 = .ok (.iadd, 1) := o_96 (by1_at (k := 960) (j := 6) lch_15 (by decide +kernel))
theorem dL_law_967 : decode cL_law 967 = .ok (.iaload, 1) := o_46 (by1_at (k := 960) (j := 7) lch_15 (by decide +kernel))
theorem dL_law_968 : decode cL_law 968 = .ok (.invokevirtual 127, 3) := o_182 (by3_at (k := 960) (j := 8) lch_15 (by decide +kernel))
theorem dL_law_971 : decode cL_law 971 = .ok (.pop, 1) := o_87 (by1_at (k := 960) (j := 11) lch_15 (by decide +kernel))
theorem dL_law_972 : decode cL_law 972 = .ok (.goto 409, 3) := o_167 (by3_at (k := 960) (j := 12) lch_15 (by decide +kernel))
theorem dL_law_975 : decode cL_law 975 = .ok (.aload_n 1, 1) := o_43 (by1_at (k := 960) (j := 15) lch_15 (by decide +kernel))
theorem dL_law_976 : decode cL_law 976 = .ok (.invokevirtual 128, 3) := o_182 (by3_at (k := 960) (j := 16) lch_15 (by decide +kernel))
theorem dL_law_979 : decode cL_law 979 = .ok (.pop, 1) := o_87 (by1_at (k := 960) (j := 19) lch_15 (by decide +kernel))
theorem dL_law_980 : decode cL_law 980 = .ok (.aload_n 2, 1) := o_44 (by1_at (k := 960) (j := 20) lch_15 (by decide +kernel))
theorem dL_law_981 : decode cL_law 981 = .ok (.invokevirtual 131, 3) := o_182 (by3_at (k := 960) (j := 21) lch_15 (by decide +kernel))
theorem dL_law_984 : decode cL_law 984 = .ok (.pop, 1) := o_87 (by1_at (k := 960) (j := 24) lch_15 (by decide +kernel))
theorem dL_law_985 : decode cL_law 985 = .ok (.goto 396, 3) := o_167 (by3_at (k := 960) (j := 25) lch_15 (by decide +kernel))
theorem dL_law_988 : decode cL_law 988 = .ok (.aload_n 1, 1) := o_43 (by1_at (k := 960) (j := 28) lch_15 (by decide +kernel))
theorem dL_law_989 : decode cL_law 989 = .ok (.aload_n 0, 1) := o_42 (by1_at (k := 960) (j := 29) lch_15 (by decide +kernel))
theorem dL_law_990 : decode cL_law 990 = .ok (.iload_n 3, 1) := o_29 (by1_at (k := 960) (j := 30) lch_15 (by decide +kernel))
theorem dL_law_991 : decode cL_law 991 = .ok (.iconst 1, 1) := o_4 (by1_at (k := 960) (j := 31) lch_15 (by decide +kernel))
theorem dL_law_992 : decode cL_law 992 = .ok (.iadd, 1) := o_96 (by1_at (k := 960) (j := 32) lch_15 (by decide +kernel))
theorem dL_law_993 : decode cL_law 993 = .ok (.iaload, 1) := o_46 (by1_at (k := 960) (j := 33) lch_15 (by decide +kernel))
theorem dL_law_994 : decode cL_law 994 = .ok (.aload_n 0, 1) := o_42 (by1_at (k := 960) (j := 34) lch_15 (by decide +kernel))
theorem dL_law_995 : decode cL_law 995 = .ok (.iload_n 3, 1) := o_29 (by1_at (k := 960) (j := 35) lch_15 (by decide +kernel))
theorem dL_law_996 : decode cL_law 996 = .ok (.iconst 2, 1) := o_5 (by1_at (k := 960) (j := 36) lch_15 (by decide +kernel))
theorem dL_law_997 : decode cL_law 997 = .ok (.iadd, 1) := o_96 (by1_at (k := 960) (j := 37) lch_15 (by decide +kernel))
theorem dL_law_998 : decode cL_law 998 = .ok (.iaload, 1) := o_46 (by1_at (k := 960) (j := 38) lch_15 (by decide +kernel))
theorem dL_law_999 : decode cL_law 999 = .ok (.invokevirtual 132, 3) := o_182 (by3_at (k := 960) (j := 39) lch_15 (by decide +kernel))
theorem dL_law_1002 : decode cL_law 1002 = .ok (.aload_n 2, 1) := o_44 (by1_at (k := 960) (j := 42) lch_15 (by decide +kernel))
theorem dL_law_1003 : decode cL_law 1003 = .ok (.aload_n 0, 1) := o_42 (by1_at (k := 960) (j := 43) lch_15 (by decide +kernel))
theorem dL_law_1004 : decode cL_law 1004 = .ok (.iload_n 3, 1) := o_29 (by1_at (k := 960) (j := 44) lch_15 (by decide +kernel))
theorem dL_law_1005 : decode cL_law 1005 = .ok (.iconst 1, 1) := o_4 (by1_at (k := 960) (j := 45) lch_15 (by decide +kernel))
theorem dL_law_1006 : decode cL_law 1006 = .ok (.iadd, 1) := o_96 (by1_at (k := 960) (j := 46) lch_15 (by decide +kernel))
theorem dL_law_1007 : decode cL_law 1007 = .ok (.iaload, 1) := o_46 (by1_at (k := 960) (j := 47) lch_15 (by decide +kernel))
theorem dL_law_1008 : decode cL_law 1008 = .ok (.aload_n 0, 1) := o_42 (by1_at (k := 960) (j := 48) lch_15 (by decide +kernel))
theorem dL_law_1009 : decode cL_law 1009 = .ok (.iload_n 3, 1) := o_29 (by1_at (k := 960) (j := 49) lch_15 (by decide +kernel))
theorem dL_law_1010 : decode cL_law 1010 = .ok (.iconst 2, 1) := o_5 (by1_at (k := 960) (j := 50) lch_15 (by decide +kernel))
theorem dL_law_1011 : decode cL_law 1011 = .ok (.iadd, 1) := o_96 (by1_at (k := 960) (j := 51) lch_15 (by decide +kernel))
theorem dL_law_1012 : decode cL_law 1012 = .ok (.iaload, 1) := o_46 (by1_at (k := 960) (j := 52) lch_15 (by decide +kernel))
theorem dL_law_1013 : decode cL_law 1013 = .ok (.invokevirtual 135, 3) := o_182 (by3_at (k := 960) (j := 53) lch_15 (by decide +kernel))
theorem dL_law_1016 : decode cL_law 1016 = .ok (.if_icmp .eq 365, 3) := o_159 (by3_at (k := 960) (j := 56) lch_15 (by decide +kernel))
theorem dL_law_1021 : decode cL_law 1021 = .ok (.aload_n 1, 1) := o_43 (by1_at (k := 960) (j := 61) lch_15 (by decide +kernel))
theorem dL_law_1022 : decode cL_law 1022 = .ok (.invokevirtual 136, 3) := o_182 (by3_at (k := 960) (j := 62) lch_15 (by decide +kernel))
theorem dL_law_1025 : decode cL_law 1025 = .ok (.pop, 1) := o_87 (by1_at (k := 1024) (j := 1) lch_16 (by decide +kernel))
theorem dL_law_1026 : decode cL_law 1026 = .ok (.aload_n 2, 1) := o_44 (by1_at (k := 1024) (j := 2) lch_16 (by decide +kernel))
theorem dL_law_1027 : decode cL_law 1027 = .ok (.invokevirtual 139, 3) := o_182 (by3_at (k := 1024) (j := 3) lch_16 (by decide +kernel))
theorem dL_law_1030 : decode cL_law 1030 = .ok (.pop, 1) := o_87 (by1_at (k := 1024) (j := 6) lch_16 (by decide +kernel))
theorem dL_law_1031 : decode cL_law 1031 = .ok (.goto 350, 3) := o_167 (by3_at (k := 1024) (j := 7) lch_16 (by decide +kernel))
theorem dL_law_1034 : decode cL_law 1034 = .ok (.aload_n 1, 1) := o_43 (by1_at (k := 1024) (j := 10) lch_16 (by decide +kernel))
theorem dL_law_1035 : decode cL_law 1035 = .ok (.invokevirtual 140, 3) := o_182 (by3_at (k := 1024) (j := 11) lch_16 (by decide +kernel))
theorem dL_law_1038 : decode cL_law 1038 = .ok (.pop, 1) := o_87 (by1_at (k := 1024) (j := 14) lch_16 (by decide +kernel))
theorem dL_law_1039 : decode cL_law 1039 = .ok (.aload_n 2, 1) := o_44 (by1_at (k := 1024) (j := 15) lch_16 (by decide +kernel))
theorem dL_law_1040 : decode cL_law 1040 = .ok (.invokevirtual 143, 3) := o_182 (by3_at (k := 1024) (j := 16) lch_16 (by decide +kernel))
theorem dL_law_1043 : decode cL_law 1043 = .ok (.pop, 1) := o_87 (by1_at (k := 1024) (j := 19) lch_16 (by decide +kernel))
theorem dL_law_1044 : decode cL_law 1044 = .ok (.goto 337, 3) := o_167 (by3_at (k := 1024) (j := 20) lch_16 (by decide +kernel))
theorem dL_law_1047 : decode cL_law 1047 = .ok (.aload_n 1, 1) := o_43 (by1_at (k := 1024) (j := 23) lch_16 (by decide +kernel))
theorem dL_law_1048 : decode cL_law 1048 = .ok (.aload_n 0, 1) := o_42 (by1_at (k := 1024) (j := 24) lch_16 (by decide +kernel))
theorem dL_law_1049 : decode cL_law 1049 = .ok (.iload_n 3, 1) := o_29 (by1_at (k := 1024) (j := 25) lch_16 (by decide +kernel))
theorem dL_law_1050 : decode cL_law 1050 = .ok (.iconst 1, 1) := o_4 (by1_at (k := 1024) (j := 26) lch_16 (by decide +kernel))
theorem dL_law_1051 : decode cL_law 1051 = .ok (.iadd, 1) := o_96 (by1_at (k := 1024) (j := 27) lch_16 (by decide +kernel))
theorem dL_law_1052 : decode cL_law 1052 = .ok (.iaload, 1) := o_46 (by1_at (k := 1024) (j := 28) lch_16 (by decide +kernel))
theorem dL_law_1053 : decode cL_law 1053 = .ok (.aload_n 0, 1) := o_42 (by1_at (k := 1024) (j := 29) lch_16 (by decide +kernel))
theorem dL_law_1054 : decode cL_law 1054 = .ok (.iload_n 3, 1) := o_29 (by1_at (k := 1024) (j := 30) lch_16 (by decide +kernel))
theorem dL_law_1055 : decode cL_law 1055 = .ok (.iconst 2, 1) := o_5 (by1_at (k := 1024) (j := 31) lch_16 (by decide +kernel))
theorem dL_law_1056 : decode cL_law 1056 = .ok (.iadd, 1) := o_96 (by1_at (k := 1024) (j := 32) lch_16 (by decide +kernel))
theorem dL_law_1057 : decode cL_law 1057 = .ok (.iaload, 1) := o_46 (by1_at (k := 1024) (j := 33) lch_16 (by decide +kernel))
theorem dL_law_1058 : decode cL_law 1058 = .ok (.aload_n 0, 1) := o_42 (by1_at (k := 1024) (j := 34) lch_16 (by decide +kernel))
theorem dL_law_1059 : decode cL_law 1059 = .ok (.iload_n 3, 1) := o_29 (by1_at (k := 1024) (j := 35) lch_16 (by decide +kernel))
theorem dL_law_1060 : decode cL_law 1060 = .ok (.iconst 3, 1) := o_6 (by1_at (k := 1024) (j := 36) lch_16 (by decide +kernel))
theorem dL_law_1061 : decode cL_law 1061 = .ok (.iadd, 1) := o_96 (by1_at (k := 1024) (j := 37) lch_16 (by decide +kernel))
theorem dL_law_1062 : decode cL_law 1062 = .ok (.iaload, 1) := o_46 (by1_at (k := 1024) (j := 38) lch_16 (by decide +kernel))
theorem dL_law_1063 : decode cL_law 1063 = .ok (.invokevirtual 144, 3) := o_182 (by3_at (k := 1024) (j := 39) lch_16 (by decide +kernel))
theorem dL_law_1066 : decode cL_law 1066 = .ok (.pop, 1) := o_87 (by1_at (k := 1024) (j := 42) lch_16 (by decide +kernel))
theorem dL_law_1067 : decode cL_law 1067 = .ok (.aload_n 2, 1) := o_44 (by1_at (k := 1024) (j := 43) lch_16 (by decide +kernel))
theorem dL_law_1068 : decode cL_law 1068 = .ok (.aload_n 0, 1) := o_42 (by1_at (k := 1024) (j := 44) lch_16 (by decide +kernel))
theorem dL_law_1069 : decode cL_law 1069 = .ok (.iload_n 3, 1) := o_29 (by1_at (k := 1024) (j := 45) lch_16 (by decide +kernel))
theorem dL_law_1070 : decode cL_law 1070 = .ok (.iconst 1, 1) := o_4 (by1_at (k := 1024) (j := 46) lch_16 (by decide +kernel))
theorem dL_law_1071 : decode cL_law 1071 = .ok (.iadd, 1) := o_96 (by1_at (k := 1024) (j := 47) lch_16 (by decide +kernel))
theorem dL_law_1072 : decode cL_law 1072 = .ok (.iaload, 1) := o_46 (by1_at (k := 1024) (j := 48) lch_16 (by decide +kernel))
theorem dL_law_1073 : decode cL_law 1073 = .ok (.aload_n 0, 1) := o_42 (by1_at (k := 1024) (j := 49) lch_16 (by decide +kernel))
theorem dL_law_1074 : decode cL_law 1074 = .ok (.iload_n 3, 1) := o_29 (by1_at (k := 1024) (j := 50) lch_16 (by decide +kernel))
theorem dL_law_1075 : decode cL_law 1075 = .ok (.iconst 2, 1) := o_5 (by1_at (k := 1024) (j := 51) lch_16 (by decide +kernel))
theorem dL_law_1076 : decode cL_law 1076 = .ok (.iadd, 1) := o_96 (by1_at (k := 1024) (j := 52) lch_16 (by decide +kernel))
theorem dL_law_1077 : decode cL_law 1077 = .ok (.iaload, 1) := o_46 (by1_at (k := 1024) (j := 53) lch_16 (by decide +kernel))
theorem dL_law_1078 : decode cL_law 1078 = .ok (.aload_n 0, 1) := o_42 (by1_at (k := 1024) (j := 54) lch_16 (by decide +kernel))
theorem dL_law_1079 : decode cL_law 1079 = .ok (.iload_n 3, 1) := o_29 (by1_at (k := 1024) (j := 55) lch_16 (by decide +kernel))
theorem dL_law_1080 : decode cL_law 1080 = .ok (.iconst 3, 1) := o_6 (by1_at (k := 1024) (j := 56) lch_16 (by decide +kernel))
theorem dL_law_1081 : decode cL_law 1081 = .ok (.iadd, 1) := o_96 (by1_at (k := 1024) (j := 57) lch_16 (by decide +kernel))
theorem dL_law_1082 : decode cL_law 1082 = .ok (.iaload, 1) := o_46 (by1_at (k := 1024) (j := 58) lch_16 (by decide +kernel))
theorem dL_law_1083 : decode cL_law 1083 = .ok (.invokevirtual 147, 3) := o_182 (by3_at (k := 1024) (j := 59) lch_16 (by decide +kernel))
theorem dL_law_1086 : decode cL_law 1086 = .ok (.pop, 1) := o_87 (by1_at (k := 1024) (j := 62) lch_16 (by decide +kernel))
theorem dL_law_1087 : decode cL_law 1087 = .ok (.goto 294, 3) := o_167 (by3_at (k := 1024) (j := 63) lch_16 (by decide +kernel))
theorem dL_law_1090 : decode cL_law 1090 = .ok (.aload_n 1, 1) := o_43 (by1_at (k := 1088) (j := 2) lch_17 (by decide +kernel))
theorem dL_law_1091 : decode cL_law 1091 = .ok (.aload_n 0, 1) := o_42 (by1_at (k := 1088) (j := 3) lch_17 (by decide +kernel))
theorem dL_law_1092 : decode cL_law 1092 = .ok (.iload_n 3, 1) := o_29 (by1_at (k := 1088) (j := 4) lch_17 (by decide +kernel))
theorem dL_law_1093 : decode cL_law 1093 = .ok (.iconst 1, 1) := o_4 (by1_at (k := 1088) (j := 5) lch_17 (by decide +kernel))
theorem dL_law_1094 : decode cL_law 1094 = .ok (.iadd, 1) := o_96 (by1_at (k := 1088) (j := 6) lch_17 (by decide +kernel))
theorem dL_law_1095 : decode cL_law 1095 = .ok (.iaload, 1) := o_46 (by1_at (k := 1088) (j := 7) lch_17 (by decide +kernel))
theorem dL_law_1096 : decode cL_law 1096 = .ok (.invokevirtual 148, 3) := o_182 (by3_at (k := 1088) (j := 8) lch_17 (by decide +kernel))
theorem dL_law_1099 : decode cL_law 1099 = .ok (.pop, 1) := o_87 (by1_at (k := 1088) (j := 11) lch_17 (by decide +kernel))
theorem dL_law_1100 : decode cL_law 1100 = .ok (.aload_n 2, 1) := o_44 (by1_at (k := 1088) (j := 12) lch_17 (by decide +kernel))
theorem dL_law_1101 : decode cL_law 1101 = .ok (.aload_n 0, 1) := o_42 (by1_at (k := 1088) (j := 13) lch_17 (by decide +kernel))
theorem dL_law_1102 : decode cL_law 1102 = .ok (.iload_n 3, 1) := o_29 (by1_at (k := 1088) (j := 14) lch_17 (by decide +kernel))
theorem dL_law_1103 : decode cL_law 1103 = .ok (.iconst 1, 1) := o_4 (by1_at (k := 1088) (j := 15) lch_17 (by decide +kernel))
theorem dL_law_1104 : decode cL_law 1104 = .ok (.iadd, 1) := o_96 (by1_at (k := 1088) (j := 16) lch_17 (by decide +kernel))
theorem dL_law_1105 : decode cL_law 1105 = .ok (.iaload, 1) := o_46 (by1_at (k := 1088) (j := 17) lch_17 (by decide +kernel))
theorem dL_law_1106 : decode cL_law 1106 = .ok (.invokevirtual 151, 3) := o_182 (by3_at (k := 1088) (j := 18) lch_17 (by decide +kernel))
theorem dL_law_1109 : decode cL_law 1109 = .ok (.pop, 1) := o_87 (by1_at (k := 1088) (j := 21) lch_17 (by decide +kernel))
theorem dL_law_1110 : decode cL_law 1110 = .ok (.goto 271, 3) := o_167 (by3_at (k := 1088) (j := 22) lch_17 (by decide +kernel))
theorem dL_law_1113 : decode cL_law 1113 = .ok (.aload_n 1, 1) := o_43 (by1_at (k := 1088) (j := 25) lch_17 (by decide +kernel))
theorem dL_law_1114 : decode cL_law 1114 = .ok (.aload_n 0, 1) := o_42 (by1_at (k := 1088) (j := 26) lch_17 (by decide +kernel))
theorem dL_law_1115 : decode cL_law 1115 = .ok (.iload_n 3, 1) := o_29 (by1_at (k := 1088) (j := 27) lch_17 (by decide +kernel))
theorem dL_law_1116 : decode cL_law 1116 = .ok (.iconst 1, 1) := o_4 (by1_at (k := 1088) (j := 28) lch_17 (by decide +kernel))
theorem dL_law_1117 : decode cL_law 1117 = .ok (.iadd, 1) := o_96 (by1_at (k := 1088) (j := 29) lch_17 (by decide +kernel))
theorem dL_law_1118 : decode cL_law 1118 = .ok (.iaload, 1) := o_46 (by1_at (k := 1088) (j := 30) lch_17 (by decide +kernel))
theorem dL_law_1119 : decode cL_law 1119 = .ok (.aload_n 0, 1) := o_42 (by1_at (k := 1088) (j := 31) lch_17 (by decide +kernel))
theorem dL_law_1120 : decode cL_law 1120 = .ok (.iload_n 3, 1) := o_29 (by1_at (k := 1088) (j := 32) lch_17 (by decide +kernel))
theorem dL_law_1121 : decode cL_law 1121 = .ok (.iconst 2, 1) := o_5 (by1_at (k := 1088) (j := 33) lch_17 (by decide +kernel))
theorem dL_law_1122 : decode cL_law 1122 = .ok (.iadd, 1) := o_96 (by1_at (k := 1088) (j := 34) lch_17 (by decide +kernel))
theorem dL_law_1123 : decode cL_law 1123 = .ok (.iaload, 1) := o_46 (by1_at (k := 1088) (j := 35) lch_17 (by decide +kernel))
theorem dL_law_1124 : decode cL_law 1124 = .ok (.invokevirtual 152, 3) := o_182 (by3_at (k := 1088) (j := 36) lch_17 (by decide +kernel))
theorem dL_law_1127 : decode cL_law 1127 = .ok (.pop, 1) := o_87 (by1_at (k := 1088) (j := 39) lch_17 (by decide +kernel))
theorem dL_law_1128 : decode cL_law 1128 = .ok (.aload_n 2, 1) := o_44 (by1_at (k := 1088) (j := 40) lch_17 (by decide +kernel))
theorem dL_law_1129 : decode cL_law 1129 = .ok (.aload_n 0, 1) := o_42 (by1_at (k := 1088) (j := 41) lch_17 (by decide +kernel))
theorem dL_law_1130 : decode cL_law 1130 = .ok (.iload_n 3, 1) := o_29 (by1_at (k := 1088) (j := 42) lch_17 (by decide +kernel))
theorem dL_law_1131 : decode cL_law 1131 = .ok (.iconst 1, 1) := o_4 (by1_at (k := 1088) (j := 43) lch_17 (by decide +kernel))
theorem dL_law_1132 : decode cL_law 1132 = .ok (.iadd, 1) := o_96 (by1_at (k := 1088) (j := 44) lch_17 (by decide +kernel))
theorem dL_law_1133 : decode cL_law 1133 = .ok (.iaload, 1) := o_46 (by1_at (k := 1088) (j := 45) lch_17 (by decide +kernel))
theorem dL_law_1134 : decode cL_law 1134 = .ok (.aload_n 0, 1) := o_42 (by1_at (k := 1088) (j := 46) lch_17 (by decide +kernel))
theorem dL_law_1135 : decode cL_law 1135 = .ok (.iload_n 3, 1) := o_29 (by1_at (k := 1088) (j := 47) lch_17 (by decide +kernel))
theorem dL_law_1136 : decode cL_law 1136 = .ok (.iconst 2, 1) := o_5 (by1_at (k := 1088) (j := 48) lch_17 (by decide +kernel))
theorem dL_law_1137 : decode cL_law 1137 = .ok (.iadd, 1) := o_96 (by1_at (k := 1088) (j := 49) lch_17 (by decide +kernel))
theorem dL_law_1138 : decode cL_law 1138 = .ok (.iaload, 1) := o_46 (by1_at (k := 1088) (j := 50) lch_17 (by decide +kernel))
theorem dL_law_1139 : decode cL_law 1139 = .ok (.invokevirtual 155, 3) := o_182 (by3_at (k := 1088) (j := 51) lch_17 (by decide +kernel))
theorem dL_law_1142 : decode cL_law 1142 = .ok (.pop, 1) := o_87 (by1_at (k := 1088) (j := 54) lch_17 (by decide +kernel))
theorem dL_law_1143 : decode cL_law 1143 = .ok (.goto 238, 3) := o_167 (by3_at (k := 1088) (j := 55) lch_17 (by decide +kernel))
theorem dL_law_1146 : decode cL_law 1146 = .ok (.aload_n 1, 1) := o_43 (by1_at (k := 1088) (j := 58) lch_17 (by decide +kernel))
theorem dL_law_1147 : decode cL_law 1147 = .ok (.aload_n 0, 1) := o_42 (by1_at (k := 1088) (j := 59) lch_17 (by decide +kernel))
theorem dL_law_1148 : decode cL_law 1148 = .ok (.iload_n 3, 1) := o_29 (by1_at (k := 1088) (j := 60) lch_17 (by decide +kernel))
theorem dL_law_1149 : decode cL_law 1149 = .ok (.iconst 1, 1) := o_4 (by1_at (k := 1088) (j := 61) lch_17 (by decide +kernel))
theorem dL_law_1150 : decode cL_law 1150 = .ok (.iadd, 1) := o_96 (by1_at (k := 1088) (j := 62) lch_17 (by decide +kernel))
theorem dL_law_1151 : decode cL_law 1151 = .ok (.iaload, 1) := o_46 (by1_at (k := 1088) (j := 63) lch_17 (by decide +kernel))
theorem dL_law_1152 : decode cL_law 1152 = .ok (.invokevirtual 156, 3) := o_182 (by3_at (k := 1152) (j := 0) lch_18 (by decide +kernel))
theorem dL_law_1155 : decode cL_law 1155 = .ok (.pop, 1) := o_87 (by1_at (k := 1152) (j := 3) lch_18 (by decide +kernel))
theorem dL_law_1156 : decode cL_law 1156 = .ok (.aload_n 2, 1) := o_44 (by1_at (k := 1152) (j := 4) lch_18 (by decide +kernel))
theorem dL_law_1157 : decode cL_law 1157 = .ok (.aload_n 0, 1) := o_42 (by1_at (k := 1152) (j := 5) lch_18 (by decide +kernel))
theorem dL_law_1158 : decode cL_law 1158 = .ok (.iload_n 3, 1) := o_29 (by1_at (k := 1152) (j := 6) lch_18 (by decide +kernel))
theorem dL_law_1159 : decode cL_law 1159 = .ok (.iconst 1, 1) := o_4 (by1_at (k := 1152) (j := 7) lch_18 (by decide +kernel))
theorem dL_law_1160 : decode cL_law 1160 = .ok (.iadd, 1) := o_96 (by1_at (k := 1152) (j := 8) lch_18 (by decide +kernel))
theorem dL_law_1161 : decode cL_law 1161 = .ok (.iaload, 1) := o_46 (by1_at (k := 1152) (j := 9) lch_18 (by decide +kernel))
theorem dL_law_1162 : decode cL_law 1162 = .ok (.invokevirtual 159, 3) := o_182 (by3_at (k := 1152) (j := 10) lch_18 (by decide +kernel))
theorem dL_law_1165 : decode cL_law 1165 = .ok (.pop, 1) := o_87 (by1_at (k := 1152) (j := 13) lch_18 (by decide +kernel))
theorem dL_law_1166 : decode cL_law 1166 = .ok (.goto 215, 3) := o_167 (by3_at (k := 1152) (j := 14) lch_18 (by decide +kernel))
theorem dL_law_1169 : decode cL_law 1169 = .ok (.aload_n 1, 1) := o_43 (by1_at (k := 1152) (j := 17) lch_18 (by decide +kernel))
theorem dL_law_1170 : decode cL_law 1170 = .ok (.aload_n 0, 1) := o_42 (by1_at (k := 1152) (j := 18) lch_18 (by decide +kernel))
theorem dL_law_1171 : decode cL_law 1171 = .ok (.iload_n 3, 1) := o_29 (by1_at (k := 1152) (j := 19) lch_18 (by decide +kernel))
theorem dL_law_1172 : decode cL_law 1172 = .ok (.iconst 1, 1) := o_4 (by1_at (k := 1152) (j := 20) lch_18 (by decide +kernel))
theorem dL_law_1173 : decode cL_law 1173 = .ok (.iadd, 1) := o_96 (by1_at (k := 1152) (j := 21) lch_18 (by decide +kernel))
theorem dL_law_1174 : decode cL_law 1174 = .ok (.iaload, 1) := o_46 (by1_at (k := 1152) (j := 22) lch_18 (by decide +kernel))
theorem dL_law_1175 : decode cL_law 1175 = .ok (.aload_n 0, 1) := o_42 (by1_at (k := 1152) (j := 23) lch_18 (by decide +kernel))
theorem dL_law_1176 : decode cL_law 1176 = .ok (.iload_n 3, 1) := o_29 (by1_at (k := 1152) (j := 24) lch_18 (by decide +kernel))
theorem dL_law_1177 : decode cL_law 1177 = .ok (.iconst 2, 1) := o_5 (by1_at (k := 1152) (j := 25) lch_18 (by decide +kernel))
theorem dL_law_1178 : decode cL_law 1178 = .ok (.iadd, 1) := o_96 (by1_at (k := 1152) (j := 26) lch_18 (by decide +kernel))
theorem dL_law_1179 : decode cL_law 1179 = .ok (.iaload, 1) := o_46 (by1_at (k := 1152) (j := 27) lch_18 (by decide +kernel))
theorem dL_law_1180 : decode cL_law 1180 = .ok (.aload_n 0, 1) := o_42 (by1_at (k := 1152) (j := 28) lch_18 (by decide +kernel))
theorem dL_law_1181 : decode cL_law 1181 = .ok (.iload_n 3, 1) := o_29 (by1_at (k := 1152) (j := 29) lch_18 (by decide +kernel))
theorem dL_law_1182 : decode cL_law 1182 = .ok (.iconst 3, 1) := o_6 (by1_at (k := 1152) (j := 30) lch_18 (by decide +kernel))
theorem dL_law_1183 : decode cL_law 1183 = .ok (.iadd, 1) := o_96 (by1_at (k := 1152) (j := 31) lch_18 (by decide +kernel))
theorem dL_law_1184 : decode cL_law 1184 = .ok (.iaload, 1) := o_46 (by1_at (k := 1152) (j := 32) lch_18 (by decide +kernel))
theorem dL_law_1185 : decode cL_law 1185 = .ok (.invokevirtual 160, 3) := o_182 (by3_at (k := 1152) (j := 33) lch_18 (by decide +kernel))
theorem dL_law_1188 : decode cL_law 1188 = .ok (.pop, 1) := o_87 (by1_at (k := 1152) (j := 36) lch_18 (by decide +kernel))
theorem dL_law_1189 : decode cL_law 1189 = .ok (.aload_n 2, 1) := o_44 (by1_at (k := 1152) (j := 37) lch_18 (by decide +kernel))
theorem dL_law_1190 : decode cL_law 1190 = .ok (.aload_n 0, 1) := o_42 (by1_at (k := 1152) (j := 38) lch_18 (by decide +kernel))
theorem dL_law_1191 : decode cL_law 1191 = .ok (.iload_n 3, 1) := o_29 (by1_at (k := 1152) (j := 39) lch_18 (by decide +kernel))
theorem dL_law_1192 : decode cL_law 1192 = .ok (.iconst 1, 1) := o_4 (by1_at (k := 1152) (j := 40) lch_18 (by decide +kernel))
theorem dL_law_1193 : decode cL_law 1193 = .ok (.iadd, 1) := o_96 (by1_at (k := 1152) (j := 41) lch_18 (by decide +kernel))
theorem dL_law_1194 : decode cL_law 1194 = .ok (.iaload, 1) := o_46 (by1_at (k := 1152) (j := 42) lch_18 (by decide +kernel))
theorem dL_law_1195 : decode cL_law 1195 = .ok (.aload_n 0, 1) := o_42 (by1_at (k := 1152) (j := 43) lch_18 (by decide +kernel))
theorem dL_law_1196 : decode cL_law 1196 = .ok (.iload_n 3, 1) := o_29 (by1_at (k := 1152) (j := 44) lch_18 (by decide +kernel))
theorem dL_law_1197 : decode cL_law 1197 = .ok (.iconst 2, 1) := o_5 (by1_at (k := 1152) (j := 45) lch_18 (by decide +kernel))
theorem dL_law_1198 : decode cL_law 1198 = .ok (.iadd, 1) := o_96 (by1_at (k := 1152) (j := 46) lch_18 (by decide +kernel))
theorem dL_law_1199 : decode cL_law 1199 = .ok (.iaload, 1) := o_46 (by1_at (k := 1152) (j := 47) lch_18 (by decide +kernel))
theorem dL_law_1200 : decode cL_law 1200 = .ok (.aload_n 0, 1) := o_42 (by1_at (k := 1152) (j := 48) lch_18 (by decide +kernel))
theorem dL_law_1201 : decode cL_law 1201 = .ok (.iload_n 3, 1) := o_29 (by1_at (k := 1152) (j := 49) lch_18 (by decide +kernel))
theorem dL_law_1202 : decode cL_law 1202 = .ok (.iconst 3, 1) := o_6 (by1_at (k := 1152) (j := 50) lch_18 (by decide +kernel))
theorem dL_law_1203 : decode cL_law 1203 = .ok (.iadd, 1) := o_96 (by1_at (k := 1152) (j := 51) lch_18 (by decide +kernel))
theorem dL_law_1204 : decode cL_law 1204 = .ok (.iaload, 1) := o_46 (by1_at (k := 1152) (j := 52) lch_18 (by decide +kernel))
theorem dL_law_1205 : decode cL_law 1205 = .ok (.invokevirtual 163, 3) := o_182 (by3_at (k := 1152) (j := 53) lch_18 (by decide +kernel))
theorem dL_law_1208 : decode cL_law 1208 = .ok (.pop, 1) := o_87 (by1_at (k := 1152) (j := 56) lch_18 (by decide +kernel))
theorem dL_law_1209 : decode cL_law 1209 = .ok (.goto 172, 3) := o_167 (by3_at (k := 1152) (j := 57) lch_18 (by decide +kernel))
theorem dL_law_1212 : decode cL_law 1212 = .ok (.aload_n 1, 1) := o_43 (by1_at (k := 1152) (j := 60) lch_18 (by decide +kernel))
theorem dL_law_1213 : decode cL_law 1213 = .ok (.aload_n 0, 1) := o_42 (by1_at (k := 1152) (j := 61) lch_18 (by decide +kernel))
theorem dL_law_1214 : decode cL_law 1214 = .ok (.iload_n 3, 1) := o_29 (by1_at (k := 1152) (j := 62) lch_18 (by decide +kernel))
theorem dL_law_1215 : decode cL_law 1215 = .ok (.iconst 1, 1) := o_4 (by1_at (k := 1152) (j := 63) lch_18 (by decide +kernel))
theorem dL_law_1216 : decode cL_law 1216 = .ok (.iadd, 1) := o_96 (by1_at (k := 1216) (j := 0) lch_19 (by decide +kernel))
theorem dL_law_1217 : decode cL_law 1217 = .ok (.iaload, 1) := o_46 (by1_at (k := 1216) (j := 1) lch_19 (by decide +kernel))
theorem dL_law_1218 : decode cL_law 1218 = .ok (.aload_n 0, 1) := o_42 (by1_at (k := 1216) (j := 2) lch_19 (by decide +kernel))
theorem dL_law_1219 : decode cL_law 1219 = .ok (.iload_n 3, 1) := o_29 (by1_at (k := 1216) (j := 3) lch_19 (by decide +kernel))
theorem dL_law_1220 : decode cL_law 1220 = .ok (.iconst 2, 1) := o_5 (by1_at (k := 1216) (j := 4) lch_19 (by decide +kernel))
theorem dL_law_1221 : decode cL_law 1221 = .ok (.iadd, 1) := o_96 (by1_at (k := 1216) (j := 5) lch_19 (by decide +kernel))
theorem dL_law_1222 : decode cL_law 1222 = .ok (.iaload, 1) := o_46 (by1_at (k := 1216) (j := 6) lch_19 (by decide +kernel))
theorem dL_law_1223 : decode cL_law 1223 = .ok (.aload_n 0, 1) := o_42 (by1_at (k := 1216) (j := 7) lch_19 (by decide +kernel))
theorem dL_law_1224 : decode cL_law 1224 = .ok (.iload_n 3, 1) := o_29 (by1_at (k := 1216) (j := 8) lch_19 (by decide +kernel))
theorem dL_law_1225 : decode cL_law 1225 = .ok (.iconst 3, 1) := o_6 (by1_at (k := 1216) (j := 9) lch_19 (by decide +kernel))
theorem dL_law_1226 : decode cL_law 1226 = .ok (.iadd, 1) := o_96 (by1_at (k := 1216) (j := 10) lch_19 (by decide +kernel))
theorem dL_law_1227 : decode cL_law 1227 = .ok (.iaload, 1) := o_46 (by1_at (k := 1216) (j := 11) lch_19 (by decide +kernel))
theorem dL_law_1228 : decode cL_law 1228 = .ok (.i2l, 1) := o_133 (by1_at (k := 1216) (j := 12) lch_19 (by decide +kernel))
theorem dL_law_1229 : decode cL_law 1229 = .ok (.bipush 32, 2) := o_16 (by2_at (k := 1216) (j := 13) lch_19 (by decide +kernel))
theorem dL_law_1231 : decode cL_law 1231 = .ok (.lshl, 1) := o_121 (by1_at (k := 1216) (j := 15) lch_19 (by decide +kernel))
theorem dL_law_1232 : decode cL_law 1232 = .ok (.aload_n 0, 1) := o_42 (by1_at (k := 1216) (j := 16) lch_19 (by decide +kernel))
theorem dL_law_1233 : decode cL_law 1233 = .ok (.iload_n 3, 1) := o_29 (by1_at (k := 1216) (j := 17) lch_19 (by decide +kernel))
theorem dL_law_1234 : decode cL_law 1234 = .ok (.iconst 4, 1) := o_7 (by1_at (k := 1216) (j := 18) lch_19 (by decide +kernel))
theorem dL_law_1235 : decode cL_law 1235 = .ok (.iadd, 1) := o_96 (by1_at (k := 1216) (j := 19) lch_19 (by decide +kernel))
theorem dL_law_1236 : decode cL_law 1236 = .ok (.iaload, 1) := o_46 (by1_at (k := 1216) (j := 20) lch_19 (by decide +kernel))
theorem dL_law_1237 : decode cL_law 1237 = .ok (.i2l, 1) := o_133 (by1_at (k := 1216) (j := 21) lch_19 (by decide +kernel))
theorem dL_law_1238 : decode cL_law 1238 = .ok (.ldc2_w 164, 3) := o_20 (by3_at (k := 1216) (j := 22) lch_19 (by decide +kernel))
theorem dL_law_1241 : decode cL_law 1241 = .ok (.land, 1) := o_127 (by1_at (k := 1216) (j := 25) lch_19 (by decide +kernel))
theorem dL_law_1242 : decode cL_law 1242 = .ok (.lor, 1) := o_129 (by1_at (k := 1216) (j := 26) lch_19 (by decide +kernel))
theorem dL_law_1243 : decode cL_law 1243 = .ok (.invokevirtual 166, 3) := o_182 (by3_at (k := 1216) (j := 27) lch_19 (by decide +kernel))
theorem dL_law_1246 : decode cL_law 1246 = .ok (.pop, 1) := o_87 (by1_at (k := 1216) (j := 30) lch_19 (by decide +kernel))
theorem dL_law_1247 : decode cL_law 1247 = .ok (.aload_n 2, 1) := o_44 (by1_at (k := 1216) (j := 31) lch_19 (by decide +kernel))
theorem dL_law_1248 : decode cL_law 1248 = .ok (.aload_n 0, 1) := o_42 (by1_at (k := 1216) (j := 32) lch_19 (by decide +kernel))
theorem dL_law_1249 : decode cL_law 1249 = .ok (.iload_n 3, 1) := o_29 (by1_at (k := 1216) (j := 33) lch_19 (by decide +kernel))
theorem dL_law_1250 : decode cL_law 1250 = .ok (.iconst 1, 1) := o_4 (by1_at (k := 1216) (j := 34) lch_19 (by decide +kernel))
theorem dL_law_1251 : decode cL_law 1251 = .ok (.iadd, 1) := o_96 (by1_at (k := 1216) (j := 35) lch_19 (by decide +kernel))
theorem dL_law_1252 : decode cL_law 1252 = .ok (.iaload, 1) := o_46 (by1_at (k := 1216) (j := 36) lch_19 (by decide +kernel))
theorem dL_law_1253 : decode cL_law 1253 = .ok (.aload_n 0, 1) := o_42 (by1_at (k := 1216) (j := 37) lch_19 (by decide +kernel))
theorem dL_law_1254 : decode cL_law 1254 = .ok (.iload_n 3, 1) := o_29 (by1_at (k := 1216) (j := 38) lch_19 (by decide +kernel))
theorem dL_law_1255 : decode cL_law 1255 = .ok (.iconst 2, 1) := o_5 (by1_at (k := 1216) (j := 39) lch_19 (by decide +kernel))
theorem dL_law_1256 : decode cL_law 1256 = .ok (.iadd, 1) := o_96 (by1_at (k := 1216) (j := 40) lch_19 (by decide +kernel))
theorem dL_law_1257 : decode cL_law 1257 = .ok (.iaload, 1) := o_46 (by1_at (k := 1216) (j := 41) lch_19 (by decide +kernel))
theorem dL_law_1258 : decode cL_law 1258 = .ok (.aload_n 0, 1) := o_42 (by1_at (k := 1216) (j := 42) lch_19 (by decide +kernel))
theorem dL_law_1259 : decode cL_law 1259 = .ok (.iload_n 3, 1) := o_29 (by1_at (k := 1216) (j := 43) lch_19 (by decide +kernel))
theorem dL_law_1260 : decode cL_law 1260 = .ok (.iconst 3, 1) := o_6 (by1_at (k := 1216) (j := 44) lch_19 (by decide +kernel))
theorem dL_law_1261 : decode cL_law 1261 = .ok (.iadd, 1) := o_96 (by1_at (k := 1216) (j := 45) lch_19 (by decide +kernel))
theorem dL_law_1262 : decode cL_law 1262 = .ok (.iaload, 1) := o_46 (by1_at (k := 1216) (j := 46) lch_19 (by decide +kernel))
theorem dL_law_1263 : decode cL_law 1263 = .ok (.i2l, 1) := o_133 (by1_at (k := 1216) (j := 47) lch_19 (by decide +kernel))
theorem dL_law_1264 : decode cL_law 1264 = .ok (.bipush 32, 2) := o_16 (by2_at (k := 1216) (j := 48) lch_19 (by decide +kernel))
theorem dL_law_1266 : decode cL_law 1266 = .ok (.lshl, 1) := o_121 (by1_at (k := 1216) (j := 50) lch_19 (by decide +kernel))
theorem dL_law_1267 : decode cL_law 1267 = .ok (.aload_n 0, 1) := o_42 (by1_at (k := 1216) (j := 51) lch_19 (by decide +kernel))
theorem dL_law_1268 : decode cL_law 1268 = .ok (.iload_n 3, 1) := o_29 (by1_at (k := 1216) (j := 52) lch_19 (by decide +kernel))
theorem dL_law_1269 : decode cL_law 1269 = .ok (.iconst 4, 1) := o_7 (by1_at (k := 1216) (j := 53) lch_19 (by decide +kernel))
theorem dL_law_1270 : decode cL_law 1270 = .ok (.iadd, 1) := o_96 (by1_at (k := 1216) (j := 54) lch_19 (by decide +kernel))
theorem dL_law_1271 : decode cL_law 1271 = .ok (.iaload, 1) := o_46 (by1_at (k := 1216) (j := 55) lch_19 (by decide +kernel))
theorem dL_law_1272 : decode cL_law 1272 = .ok (.i2l, 1) := o_133 (by1_at (k := 1216) (j := 56) lch_19 (by decide +kernel))
theorem dL_law_1273 : decode cL_law 1273 = .ok (.ldc2_w 164, 3) := o_20 (by3_at (k := 1216) (j := 57) lch_19 (by decide +kernel))
theorem dL_law_1276 : decode cL_law 1276 = .ok (.land, 1) := o_127 (by1_at (k := 1216) (j := 60) lch_19 (by decide +kernel))
theorem dL_law_1277 : decode cL_law 1277 = .ok (.lor, 1) := o_129 (by1_at (k := 1216) (j := 61) lch_19 (by decide +kernel))
theorem dL_law_1278 : decode cL_law 1278 = .ok (.invokevirtual 170, 3) := o_182 (by3_at (k := 1216) (j := 62) lch_19 (by decide +kernel))
theorem dL_law_1281 : decode cL_law 1281 = .ok (.pop, 1) := o_87 (by1_at (k := 1280) (j := 1) lch_20 (by decide +kernel))
theorem dL_law_1282 : decode cL_law 1282 = .ok (.goto 99, 3) := o_167 (by3_at (k := 1280) (j := 2) lch_20 (by decide +kernel))
theorem dL_law_1285 : decode cL_law 1285 = .ok (.aload_n 1, 1) := o_43 (by1_at (k := 1280) (j := 5) lch_20 (by decide +kernel))
theorem dL_law_1286 : decode cL_law 1286 = .ok (.aload_n 0, 1) := o_42 (by1_at (k := 1280) (j := 6) lch_20 (by decide +kernel))
theorem dL_law_1287 : decode cL_law 1287 = .ok (.iload_n 3, 1) := o_29 (by1_at (k := 1280) (j := 7) lch_20 (by decide +kernel))
theorem dL_law_1288 : decode cL_law 1288 = .ok (.iconst 1, 1) := o_4 (by1_at (k := 1280) (j := 8) lch_20 (by decide +kernel))
theorem dL_law_1289 : decode cL_law 1289 = .ok (.iadd, 1) := o_96 (by1_at (k := 1280) (j := 9) lch_20 (by decide +kernel))
theorem dL_law_1290 : decode cL_law 1290 = .ok (.iaload, 1) := o_46 (by1_at (k := 1280) (j := 10) lch_20 (by decide +kernel))
theorem dL_law_1291 : decode cL_law 1291 = .ok (.aload_n 0, 1) := o_42 (by1_at (k := 1280) (j := 11) lch_20 (by decide +kernel))
theorem dL_law_1292 : decode cL_law 1292 = .ok (.iload_n 3, 1) := o_29 (by1_at (k := 1280) (j := 12) lch_20 (by decide +kernel))
theorem dL_law_1293 : decode cL_law 1293 = .ok (.iconst 2, 1) := o_5 (by1_at (k := 1280) (j := 13) lch_20 (by decide +kernel))
theorem dL_law_1294 : decode cL_law 1294 = .ok (.iadd, 1) := o_96 (by1_at (k := 1280) (j := 14) lch_20 (by decide +kernel))
theorem dL_law_1295 : decode cL_law 1295 = .ok (.iaload, 1) := o_46 (by1_at (k := 1280) (j := 15) lch_20 (by decide +kernel))
theorem dL_law_1296 : decode cL_law 1296 = .ok (.invokevirtual 171, 3) := o_182 (by3_at (k := 1280) (j := 16) lch_20 (by decide +kernel))
theorem dL_law_1299 : decode cL_law 1299 = .ok (.pop2, 1) := o_88 (by1_at (k := 1280) (j := 19) lch_20 (by decide +kernel))
theorem dL_law_1300 : decode cL_law 1300 = .ok (.aload_n 2, 1) := o_44 (by1_at (k := 1280) (j := 20) lch_20 (by decide +kernel))
theorem dL_law_1301 : decode cL_law 1301 = .ok (.aload_n 0, 1) := o_42 (by1_at (k := 1280) (j := 21) lch_20 (by decide +kernel))
theorem dL_law_1302 : decode cL_law 1302 = .ok (.iload_n 3, 1) := o_29 (by1_at (k := 1280) (j := 22) lch_20 (by decide +kernel))
theorem dL_law_1303 : decode cL_law 1303 = .ok (.iconst 1, 1) := o_4 (by1_at (k := 1280) (j := 23) lch_20 (by decide +kernel))
theorem dL_law_1304 : decode cL_law 1304 = .ok (.iadd, 1) := o_96 (by1_at (k := 1280) (j := 24) lch_20 (by decide +kernel))
theorem dL_law_1305 : decode cL_law 1305 = .ok (.iaload, 1) := o_46 (by1_at (k := 1280) (j := 25) lch_20 (by decide +kernel))
theorem dL_law_1306 : decode cL_law 1306 = .ok (.aload_n 0, 1) := o_42 (by1_at (k := 1280) (j := 26) lch_20 (by decide +kernel))
theorem dL_law_1307 : decode cL_law 1307 = .ok (.iload_n 3, 1) := o_29 (by1_at (k := 1280) (j := 27) lch_20 (by decide +kernel))
theorem dL_law_1308 : decode cL_law 1308 = .ok (.iconst 2, 1) := o_5 (by1_at (k := 1280) (j := 28) lch_20 (by decide +kernel))
theorem dL_law_1309 : decode cL_law 1309 = .ok (.iadd, 1) := o_96 (by1_at (k := 1280) (j := 29) lch_20 (by decide +kernel))
theorem dL_law_1310 : decode cL_law 1310 = .ok (.iaload, 1) := o_46 (by1_at (k := 1280) (j := 30) lch_20 (by decide +kernel))
theorem dL_law_1311 : decode cL_law 1311 = .ok (.invokevirtual 174, 3) := o_182 (by3_at (k := 1280) (j := 31) lch_20 (by decide +kernel))
theorem dL_law_1314 : decode cL_law 1314 = .ok (.pop2, 1) := o_88 (by1_at (k := 1280) (j := 34) lch_20 (by decide +kernel))
theorem dL_law_1315 : decode cL_law 1315 = .ok (.goto 66, 3) := o_167 (by3_at (k := 1280) (j := 35) lch_20 (by decide +kernel))
theorem dL_law_1318 : decode cL_law 1318 = .ok (.aload_n 1, 1) := o_43 (by1_at (k := 1280) (j := 38) lch_20 (by decide +kernel))
theorem dL_law_1319 : decode cL_law 1319 = .ok (.aload_n 0, 1) := o_42 (by1_at (k := 1280) (j := 39) lch_20 (by decide +kernel))
theorem dL_law_1320 : decode cL_law 1320 = .ok (.iload_n 3, 1) := o_29 (by1_at (k := 1280) (j := 40) lch_20 (by decide +kernel))
theorem dL_law_1321 : decode cL_law 1321 = .ok (.iconst 1, 1) := o_4 (by1_at (k := 1280) (j := 41) lch_20 (by decide +kernel))
theorem dL_law_1322 : decode cL_law 1322 = .ok (.iadd, 1) := o_96 (by1_at (k := 1280) (j := 42) lch_20 (by decide +kernel))
theorem dL_law_1323 : decode cL_law 1323 = .ok (.iaload, 1) := o_46 (by1_at (k := 1280) (j := 43) lch_20 (by decide +kernel))
theorem dL_law_1324 : decode cL_law 1324 = .ok (.aload_n 0, 1) := o_42 (by1_at (k := 1280) (j := 44) lch_20 (by decide +kernel))
theorem dL_law_1325 : decode cL_law 1325 = .ok (.iload_n 3, 1) := o_29 (by1_at (k := 1280) (j := 45) lch_20 (by decide +kernel))
theorem dL_law_1326 : decode cL_law 1326 = .ok (.iconst 2, 1) := o_5 (by1_at (k := 1280) (j := 46) lch_20 (by decide +kernel))
theorem dL_law_1327 : decode cL_law 1327 = .ok (.iadd, 1) := o_96 (by1_at (k := 1280) (j := 47) lch_20 (by decide +kernel))
theorem dL_law_1328 : decode cL_law 1328 = .ok (.iaload, 1) := o_46 (by1_at (k := 1280) (j := 48) lch_20 (by decide +kernel))
theorem dL_law_1329 : decode cL_law 1329 = .ok (.aload_n 0, 1) := o_42 (by1_at (k := 1280) (j := 49) lch_20 (by decide +kernel))
theorem dL_law_1330 : decode cL_law 1330 = .ok (.iload_n 3, 1) := o_29 (by1_at (k := 1280) (j := 50) lch_20 (by decide +kernel))
theorem dL_law_1331 : decode cL_law 1331 = .ok (.iconst 3, 1) := o_6 (by1_at (k := 1280) (j := 51) lch_20 (by decide +kernel))
theorem dL_law_1332 : decode cL_law 1332 = .ok (.iadd, 1) := o_96 (by1_at (k := 1280) (j := 52) lch_20 (by decide +kernel))
theorem dL_law_1333 : decode cL_law 1333 = .ok (.iaload, 1) := o_46 (by1_at (k := 1280) (j := 53) lch_20 (by decide +kernel))
theorem dL_law_1334 : decode cL_law 1334 = .ok (.aload_n 0, 1) := o_42 (by1_at (k := 1280) (j := 54) lch_20 (by decide +kernel))
theorem dL_law_1335 : decode cL_law 1335 = .ok (.iload_n 3, 1) := o_29 (by1_at (k := 1280) (j := 55) lch_20 (by decide +kernel))
theorem dL_law_1336 : decode cL_law 1336 = .ok (.iconst 4, 1) := o_7 (by1_at (k := 1280) (j := 56) lch_20 (by decide +kernel))
theorem dL_law_1337 : decode cL_law 1337 = .ok (.iadd, 1) := o_96 (by1_at (k := 1280) (j := 57) lch_20 (by decide +kernel))
theorem dL_law_1338 : decode cL_law 1338 = .ok (.iaload, 1) := o_46 (by1_at (k := 1280) (j := 58) lch_20 (by decide +kernel))
theorem dL_law_1339 : decode cL_law 1339 = .ok (.aload_n 0, 1) := o_42 (by1_at (k := 1280) (j := 59) lch_20 (by decide +kernel))
theorem dL_law_1340 : decode cL_law 1340 = .ok (.iload_n 3, 1) := o_29 (by1_at (k := 1280) (j := 60) lch_20 (by decide +kernel))
theorem dL_law_1341 : decode cL_law 1341 = .ok (.iconst 5, 1) := o_8 (by1_at (k := 1280) (j := 61) lch_20 (by decide +kernel))
theorem dL_law_1342 : decode cL_law 1342 = .ok (.iadd, 1) := o_96 (by1_at (k := 1280) (j := 62) lch_20 (by decide +kernel))
theorem dL_law_1343 : decode cL_law 1343 = .ok (.iaload, 1) := o_46 (by1_at (k := 1280) (j := 63) lch_20 (by decide +kernel))
theorem dL_law_1344 : decode cL_law 1344 = .ok (.invokevirtual 175, 3) := o_182 (by3_at (k := 1344) (j := 0) lch_21 (by decide +kernel))
theorem dL_law_1347 : decode cL_law 1347 = .ok (.pop, 1) := o_87 (by1_at (k := 1344) (j := 3) lch_21 (by decide +kernel))
theorem dL_law_1348 : decode cL_law 1348 = .ok (.aload_n 2, 1) := o_44 (by1_at (k := 1344) (j := 4) lch_21 (by decide +kernel))
theorem dL_law_1349 : decode cL_law 1349 = .ok (.aload_n 0, 1) := o_42 (by1_at (k := 1344) (j := 5) lch_21 (by decide +kernel))
theorem dL_law_1350 : decode cL_law 1350 = .ok (.iload_n 3, 1) := o_29 (by1_at (k := 1344) (j := 6) lch_21 (by decide +kernel))
theorem dL_law_1351 : decode cL_law 1351 = .ok (.iconst 1, 1) := o_4 (by1_at (k := 1344) (j := 7) lch_21 (by decide +kernel))
theorem dL_law_1352 : decode cL_law 1352 = .ok (.iadd, 1) := o_96 (by1_at (k := 1344) (j := 8) lch_21 (by decide +kernel))
theorem dL_law_1353 : decode cL_law 1353 = .ok (.iaload, 1) := o_46 (by1_at (k := 1344) (j := 9) lch_21 (by decide +kernel))
theorem dL_law_1354 : decode cL_law 1354 = .ok (.aload_n 0, 1) := o_42 (by1_at (k := 1344) (j := 10) lch_21 (by decide +kernel))
theorem dL_law_1355 : decode cL_law 1355 = .ok (.iload_n 3, 1) := o_29 (by1_at (k := 1344) (j := 11) lch_21 (by decide +kernel))
theorem dL_law_1356 : decode cL_law 1356 = .ok (.iconst 2, 1) := o_5 (by1_at (k := 1344) (j := 12) lch_21 (by decide +kernel))
theorem dL_law_1357 : decode cL_law 1357 = .ok (.iadd, 1) := o_96 (by1_at (k := 1344) (j := 13) lch_21 (by decide +kernel))
theorem dL_law_1358 : decode cL_law 1358 = .ok (.iaload, 1) := o_46 (by1_at (k := 1344) (j := 14) lch_21 (by decide +kernel))
theorem dL_law_1359 : decode cL_law 1359 = .ok (.aload_n 0, 1) := o_42 (by1_at (k := 1344) (j := 15) lch_21 (by decide +kernel))
theorem dL_law_1360 : decode cL_law 1360 = .ok (.iload_n 3, 1) := o_29 (by1_at (k := 1344) (j := 16) lch_21 (by decide +kernel))
theorem dL_law_1361 : decode cL_law 1361 = .ok (.iconst 3, 1) := o_6 (by1_at (k := 1344) (j := 17) lch_21 (by decide +kernel))
theorem dL_law_1362 : decode cL_law 1362 = .ok (.iadd, 1) := o_96 (by1_at (k := 1344) (j := 18) lch_21 (by decide +kernel))
theorem dL_law_1363 : decode cL_law 1363 = .ok (.iaload, 1) := o_46 (by1_at (k := 1344) (j := 19) lch_21 (by decide +kernel))
theorem dL_law_1364 : decode cL_law 1364 = .ok (.aload_n 0, 1) := o_42 (by1_at (k := 1344) (j := 20) lch_21 (by decide +kernel))
theorem dL_law_1365 : decode cL_law 1365 = .ok (.iload_n 3, 1) := o_29 (by1_at (k := 1344) (j := 21) lch_21 (by decide +kernel))
theorem dL_law_1366 : decode cL_law 1366 = .ok (.iconst 4, 1) := o_7 (by1_at (k := 1344) (j := 22) lch_21 (by decide +kernel))
theorem dL_law_1367 : decode cL_law 1367 = .ok (.iadd, 1) := o_96 (by1_at (k := 1344) (j := 23) lch_21 (by decide +kernel))
theorem dL_law_1368 : decode cL_law 1368 = .ok (.iaload, 1) := o_46 (by1_at (k := 1344) (j := 24) lch_21 (by decide +kernel))
theorem dL_law_1369 : decode cL_law 1369 = .ok (.aload_n 0, 1) := o_42 (by1_at (k := 1344) (j := 25) lch_21 (by decide +kernel))
theorem dL_law_1370 : decode cL_law 1370 = .ok (.iload_n 3, 1) := o_29 (by1_at (k := 1344) (j := 26) lch_21 (by decide +kernel))
theorem dL_law_1371 : decode cL_law 1371 = .ok (.iconst 5, 1) := o_8 (by1_at (k := 1344) (j := 27) lch_21 (by decide +kernel))
theorem dL_law_1372 : decode cL_law 1372 = .ok (.iadd, 1) := o_96 (by1_at (k := 1344) (j := 28) lch_21 (by decide +kernel))
theorem dL_law_1373 : decode cL_law 1373 = .ok (.iaload, 1) := o_46 (by1_at (k := 1344) (j := 29) lch_21 (by decide +kernel))
theorem dL_law_1374 : decode cL_law 1374 = .ok (.invokevirtual 179, 3) := o_182 (by3_at (k := 1344) (j := 30) lch_21 (by decide +kernel))
theorem dL_law_1377 : decode cL_law 1377 = .ok (.pop, 1) := o_87 (by1_at (k := 1344) (j := 33) lch_21 (by decide +kernel))
theorem dL_law_1378 : decode cL_law 1378 = .ok (.goto 3, 3) := o_167 (by3_at (k := 1344) (j := 34) lch_21 (by decide +kernel))
theorem dL_law_1381 : decode cL_law 1381 = .ok (.iinc 3 6, 3) := o_132 (by3_at (k := 1344) (j := 37) lch_21 (by decide +kernel))
theorem dL_law_1384 : decode cL_law 1384 = .ok (.goto (-1366), 3) := o_167 (by3_at (k := 1344) (j := 40) lch_21 (by decide +kernel))
theorem dL_law_1387 : decode cL_law 1387 = .ok (.iconst 1, 1) := o_4 (by1_at (k := 1344) (j := 43) lch_21 (by decide +kernel))
theorem dL_law_1388 : decode cL_law 1388 = .ok (.ireturn, 1) := o_172 (by1_at (k := 1344) (j := 44) lch_21 (by decide +kernel))
noncomputable def lawR : List (List Cond) := [wsL_law_r1, wsL_law_r2, wsL_law_r3, wsL_law_r4, wsL_law_r5, wsL_law_r6, wsL_law_r7, wsL_law_r8, wsL_law_r9, wsL_law_r10, wsL_law_r11, wsL_law_r12, wsL_law_r13, wsL_law_r14, wsL_law_r15, wsL_law_r16, wsL_law_r17, wsL_law_r18, wsL_law_r19, wsL_law_r20, wsL_law_r21, wsL_law_r22, wsL_law_r23, wsL_law_r24, wsL_law_r25, wsL_law_r26, wsL_law_r27, wsL_law_r28, wsL_law_r29, wsL_law_r30, wsL_law_r31, wsL_law_r32, wsL_law_r33, wsL_law_r34, wsL_law_r35, wsL_law_r36, wsL_law_r37, wsL_law_r38, wsL_law_r39, wsL_law_r40, wsL_law_r41, wsL_law_r42, wsL_law_r43, wsL_law_r44, wsL_law_r45, wsL_law_r46, wsL_law_r47, wsL_law_r48, wsL_law_r49, wsL_law_r50, wsL_law_r51, wsL_law_r52, wsL_law_r53, wsL_law_r54, wsL_law_r55, wsX110, wsX120, wsX10, wsX50, wsX20, wsX90, wsX80, wsX30, wsX00, wsX60, wsX70, wsX100, wsX40]
theorem lawR_in : ∀ L ∈ lawR, ∀ w ∈ L, w ∈ lw_tbl := by
  intro L hL
  simp only [lawR, List.mem_cons, List.not_mem_nil, or_false] at hL
  rcases hL with rfl | rfl | rfl | rfl | rfl | rfl | rfl | rfl | rfl | rfl | rfl | rfl | rfl | rfl | rfl | rfl | rfl | rfl | rfl | rfl | rfl | rfl | rfl | rfl | rfl | rfl | rfl | rfl | rfl | rfl | rfl | rfl | rfl | rfl | rfl | rfl | rfl | rfl | rfl | rfl | rfl | rfl | rfl | rfl | rfl | rfl | rfl | rfl | rfl | rfl | rfl | rfl | rfl | rfl | rfl | rfl | rfl | rfl | rfl | rfl | rfl | rfl | rfl | rfl | rfl | rfl | rfl | rfl
  · exact wsL_in_1
  · exact wsL_in_2
  · exact wsL_in_3
  · exact wsL_in_4
  · exact wsL_in_5
  · exact wsL_in_6
  · exact wsL_in_7
  · exact wsL_in_8
  · exact wsL_in_9
  · exact wsL_in_10
  · exact wsL_in_11
  · exact wsL_in_12
  · exact wsL_in_13
  · exact wsL_in_14
  · exact wsL_in_15
  · exact wsL_in_16
  · exact wsL_in_17
  · exact wsL_in_18
  · exact wsL_in_19
  · exact wsL_in_20
  · exact wsL_in_21
  · exact wsL_in_22
  · exact wsL_in_23
  · exact wsL_in_24
  · exact wsL_in_25
  · exact wsL_in_26
  · exact wsL_in_27
  · exact wsL_in_28
  · exact wsL_in_29
  · exact wsL_in_30
  · exact wsL_in_31
  · exact wsL_in_32
  · exact wsL_in_33
  · exact wsL_in_34
  · exact wsL_in_35
  · exact wsL_in_36
  · exact wsL_in_37
  · exact wsL_in_38
  · exact wsL_in_39
  · exact wsL_in_40
  · exact wsL_in_41
  · exact wsL_in_42
  · exact wsL_in_43
  · exact wsL_in_44
  · exact wsL_in_45
  · exact wsL_in_46
  · exact wsL_in_47
  · exact wsL_in_48
  · exact wsL_in_49
  · exact wsL_in_50
  · exact wsL_in_51
  · exact wsL_in_52
  · exact wsL_in_53
  · exact wsL_in_54
  · exact wsL_in_55
  · exact wsL_inX11
  · exact wsL_inX12
  · exact wsL_inX1
  · exact wsL_inX5
  · exact wsL_inX2
  · exact wsL_inX9
  · exact wsL_inX8
  · exact wsL_inX3
  · exact wsL_inX0
  · exact wsL_inX6
  · exact wsL_inX7
  · exact wsL_inX10
  · exact wsL_inX4
theorem goodIn_q (ws : List Cond) (ps : List (Nat × Nat)) (hp : ws = ps.filterMap (fun q => (lawR.getD q.1 [])[q.2]?)) (h : ws.all goodWord = true) : GoodIn lw_tbl ws := by
  intro w hw
  have h1 := List.all_eq_true.mp h w hw
  rw [hp] at hw
  obtain ⟨⟨j, k⟩, -, hi⟩ := List.mem_filterMap.mp hw
  refine ⟨?_, good_of_word h1⟩
  have hm : w ∈ lawR.getD j [] := List.mem_of_getElem? hi
  rw [List.getD_eq_getElem?_getD] at hm
  cases hj : lawR[j]? with
  | none => rw [hj] at hm; exact absurd hm List.not_mem_nil
  | some L => rw [hj] at hm; exact lawR_in L (List.mem_of_getElem? hj) w hm
theorem goodIn_qs (ws : List Cond) (rs : List (Nat × Nat × Nat)) (hp : ws = (rs.map (fun q => ((lawR.getD q.1 []).drop q.2.1).take q.2.2)).flatten) (h : ws.all goodWord = true) : GoodIn lw_tbl ws := by
  intro w hw
  have h1 := List.all_eq_true.mp h w hw
  refine ⟨?_, good_of_word h1⟩
  rw [hp] at hw
  obtain ⟨l, hl, hw2⟩ := List.mem_flatten.mp hw
  obtain ⟨⟨j, k, m⟩, -, rfl⟩ := List.mem_map.mp hl
  have hm : w ∈ lawR.getD j [] := List.mem_of_mem_drop (List.mem_of_mem_take hw2)
  rw [List.getD_eq_getElem?_getD] at hm
  cases hj : lawR[j]? with
  | none => rw [hj] at hm; exact absurd hm List.not_mem_nil
  | some L => rw [hj] at hm; exact lawR_in L (List.mem_of_getElem? hj) w hm
theorem gt_lw_tbl_wsX10 : GoodIn lw_tbl wsX10 := fun w h => ⟨wsL_inX1 w h, good_of_word (gq_wsX10 w h)⟩
theorem gt_lw_tbl_wsX110 : GoodIn lw_tbl wsX110 := fun w h => ⟨wsL_inX11 w h, good_of_word (gq_wsX110 w h)⟩
theorem gt_lw_tbl_wsX50 : GoodIn lw_tbl wsX50 := fun w h => ⟨wsL_inX5 w h, good_of_word (gq_wsX50 w h)⟩
theorem gt_lw_tbl_wsX20 : GoodIn lw_tbl wsX20 := fun w h => ⟨wsL_inX2 w h, good_of_word (gq_wsX20 w h)⟩
theorem gt_lw_tbl_wsX90 : GoodIn lw_tbl wsX90 := fun w h => ⟨wsL_inX9 w h, good_of_word (gq_wsX90 w h)⟩
set_option maxRecDepth 20000 in
theorem ggL_X11_init : GoodIn lw_tbl wsX11_init := goodIn_ca (goodIn_ca (goodIn_ca (goodIn_ca (goodIn_ca (goodIn_qs _ [(0, 9, 15), (1, 0, 24), (2, 0, 24), (3, 0, 20)] rfl (by decide +kernel)) gt_lw_tbl_wsX10) gt_lw_tbl_wsX110) gt_lw_tbl_wsX50) gt_lw_tbl_wsX20) gt_lw_tbl_wsX90
theorem gL_X11_init : GoodIn lw_tbl (wsX11_init) := ggL_X11_init
theorem gt_lw_tbl_wsX120 : GoodIn lw_tbl wsX120 := fun w h => ⟨wsL_inX12 w h, good_of_word (gq_wsX120 w h)⟩
set_option maxRecDepth 20000 in
theorem ggL_X12_init : GoodIn lw_tbl wsX12_init := goodIn_ca (goodIn_qs _ [(3, 22, 2), (0, 11, 2), (4, 0, 3), (1, 8, 1), (4, 3, 21), (5, 0, 24), (6, 0, 24), (7, 0, 2), (3, 16, 1), (7, 2, 2)] rfl (by decide +kernel)) gt_lw_tbl_wsX120
theorem gL_X12_init : GoodIn lw_tbl (wsX12_init) := ggL_X12_init
theorem gt_lw_tbl_wsX80 : GoodIn lw_tbl wsX80 := fun w h => ⟨wsL_inX8 w h, good_of_word (gq_wsX80 w h)⟩
theorem gt_lw_tbl_wsX30 : GoodIn lw_tbl wsX30 := fun w h => ⟨wsL_inX3 w h, good_of_word (gq_wsX30 w h)⟩
theorem gt_lw_tbl_wsX00 : GoodIn lw_tbl wsX00 := fun w h => ⟨wsL_inX0 w h, good_of_word (gq_wsX00 w h)⟩
theorem gt_lw_tbl_wsX60 : GoodIn lw_tbl wsX60 := fun w h => ⟨wsL_inX6 w h, good_of_word (gq_wsX60 w h)⟩
theorem gt_lw_tbl_wsX70 : GoodIn lw_tbl wsX70 := fun w h => ⟨wsL_inX7 w h, good_of_word (gq_wsX70 w h)⟩
theorem gt_lw_tbl_wsX100 : GoodIn lw_tbl wsX100 := fun w h => ⟨wsL_inX10 w h, good_of_word (gq_wsX100 w h)⟩
theorem gt_lw_tbl_wsX40 : GoodIn lw_tbl wsX40 := fun w h => ⟨wsL_inX4 w h, good_of_word (gq_wsX40 w h)⟩
set_option maxRecDepth 20000 in
theorem ggL_X11_mower : GoodIn lw_tbl wsX11_mower := goodIn_ca (goodIn_ca (goodIn_ca (goodIn_ca (goodIn_ca (goodIn_ca (goodIn_ca (goodIn_ca (goodIn_ca (goodIn_qs _ [(7, 7, 1), (0, 16, 1), (7, 8, 3), (0, 2, 1), (7, 11, 13), (8, 0, 16), (0, 11, 2), (8, 16, 8), (9, 0, 19), (0, 15, 1), (9, 19, 2), (1, 21, 1), (2, 2, 1), (1, 23, 1), (1, 22, 1), (2, 0, 1)] rfl (by decide +kernel)) gt_lw_tbl_wsX110) gt_lw_tbl_wsX10) gt_lw_tbl_wsX80) gt_lw_tbl_wsX30) gt_lw_tbl_wsX00) gt_lw_tbl_wsX60) gt_lw_tbl_wsX70) gt_lw_tbl_wsX100) gt_lw_tbl_wsX40
theorem gL_X11_mower : GoodIn lw_tbl (wsV RL 13 RX11 yX11_mower wsX11_mower) := goodIn_app (goodIn_qs _ [(7, 4, 3), (0, 2, 1)] rfl (by decide +kernel)) ggL_X11_mower
set_option maxRecDepth 20000 in
theorem ggL_X12_mower : GoodIn lw_tbl wsX12_mower := goodIn_ca (goodIn_qs _ [(10, 0, 1), (4, 0, 1), (4, 3, 6), (4, 10, 1), (4, 9, 1), (4, 2, 1), (10, 1, 3), (0, 5, 1), (10, 4, 1)] rfl (by decide +kernel)) gt_lw_tbl_wsX120
theorem gL_X12_mower : GoodIn lw_tbl (wsV RL 17 RX12 yX12_mower wsX12_mower) := goodIn_app (goodIn_qs _ [(9, 21, 3), (0, 5, 1)] rfl (by decide +kernel)) ggL_X12_mower
set_option maxRecDepth 20000 in
theorem ggL_X11_of : GoodIn lw_tbl wsX11_of := goodIn_ca (goodIn_ca (goodIn_ca (goodIn_ca (goodIn_ca (goodIn_ca (goodIn_ca (goodIn_ca (goodIn_ca (goodIn_ca (goodIn_qs _ [(10, 8, 1), (0, 16, 1), (10, 9, 10), (0, 2, 1), (10, 19, 1), (7, 8, 1), (10, 20, 3), (0, 15, 1), (10, 23, 1), (2, 0, 1), (1, 23, 1), (11, 0, 4), (2, 14, 1), (1, 21, 1), (11, 4, 1), (2, 2, 2), (2, 6, 2), (11, 5, 3), (1, 13, 1), (11, 8, 1), (3, 9, 1), (3, 6, 1), (3, 8, 1), (3, 7, 1), (11, 9, 4), (3, 5, 1), (3, 4, 1), (11, 13, 10), (7, 20, 1), (11, 23, 1), (12, 0, 3), (8, 8, 1), (12, 3, 2), (8, 17, 1), (12, 5, 2), (7, 17, 1), (12, 7, 12), (7, 23, 1), (12, 19, 5), (13, 0, 2), (7, 14, 1), (13, 2, 3), (8, 2, 1), (13, 5, 8), (2, 1, 1), (13, 13, 4), (2, 8, 1), (13, 17, 4), (8, 5, 1), (13, 21, 3), (14, 0, 5)] rfl (by decide +kernel)) gt_lw_tbl_wsX110) gt_lw_tbl_wsX10) gt_lw_tbl_wsX00) gt_lw_tbl_wsX30) gt_lw_tbl_wsX40) gt_lw_tbl_wsX60) gt_lw_tbl_wsX70) gt_lw_tbl_wsX80) gt_lw_tbl_wsX100) gt_lw_tbl_wsX20
theorem gL_X11_of : GoodIn lw_tbl (wsV RL 18 RX11 yX11_of wsX11_of) := goodIn_app (goodIn_qs _ [(10, 5, 3), (0, 2, 1)] rfl (by decide +kernel)) ggL_X11_of
set_option maxRecDepth 20000 in
theorem ggL_X12_of : GoodIn lw_tbl wsX12_of := goodIn_ca (goodIn_qs _ [(14, 8, 1), (4, 3, 6), (14, 9, 3), (0, 5, 1), (14, 12, 1), (4, 0, 1), (10, 1, 4), (14, 13, 4), (4, 10, 1), (14, 17, 4), (5, 7, 1), (4, 18, 2), (14, 21, 3), (15, 0, 1), (4, 12, 1), (15, 1, 4), (4, 17, 1), (15, 5, 4), (4, 20, 3), (5, 6, 1), (15, 9, 4), (4, 1, 1), (15, 13, 11), (16, 0, 1), (4, 9, 1), (16, 1, 8), (4, 2, 1), (16, 9, 4), (5, 4, 1), (16, 13, 4)] rfl (by decide +kernel)) gt_lw_tbl_wsX120
theorem gL_X12_of : GoodIn lw_tbl (wsV RL 21 RX12 yX12_of wsX12_of) := goodIn_app (goodIn_qs _ [(14, 5, 3), (0, 5, 1)] rfl (by decide +kernel)) ggL_X12_of
set_option maxRecDepth 20000 in
theorem ggL_X11_set : GoodIn lw_tbl wsX11_set := goodIn_ca (goodIn_ca (goodIn_qs _ [(16, 20, 1), (0, 16, 1), (10, 16, 3), (0, 2, 1), (10, 19, 1), (7, 8, 1), (16, 21, 3), (0, 15, 1), (17, 0, 1), (2, 1, 4)] rfl (by decide +kernel)) gt_lw_tbl_wsX110) gt_lw_tbl_wsX10
theorem gL_X11_set : GoodIn lw_tbl (wsV RL 22 RX11 yX11_set wsX11_set) := goodIn_app (goodIn_qs _ [(16, 17, 3), (0, 2, 1)] rfl (by decide +kernel)) ggL_X11_set
set_option maxRecDepth 20000 in
theorem ggL_X12_set : GoodIn lw_tbl wsX12_set := goodIn_ca (goodIn_qs _ [(17, 4, 1), (4, 5, 4), (14, 9, 3), (0, 5, 1), (14, 12, 1), (4, 0, 1), (10, 1, 4)] rfl (by decide +kernel)) gt_lw_tbl_wsX120
theorem gL_X12_set : GoodIn lw_tbl (wsV RL 26 RX12 yX12_set wsX12_set) := goodIn_app (goodIn_qs _ [(17, 1, 3), (0, 5, 1)] rfl (by decide +kernel)) ggL_X12_set
set_option maxRecDepth 20000 in
theorem ggL_X11_row : GoodIn lw_tbl wsX11_row := goodIn_ca (goodIn_ca (goodIn_qs _ [(17, 8, 1), (0, 16, 1), (10, 9, 1), (17, 9, 2), (10, 16, 3), (0, 2, 1), (10, 19, 1), (7, 8, 1)] rfl (by decide +kernel)) gt_lw_tbl_wsX110) gt_lw_tbl_wsX10
theorem gL_X11_row : GoodIn lw_tbl (wsV RL 27 RX11 yX11_row wsX11_row) := goodIn_app (goodIn_qs _ [(17, 5, 3), (0, 2, 1)] rfl (by decide +kernel)) ggL_X11_row
set_option maxRecDepth 20000 in
theorem ggL_X12_row : GoodIn lw_tbl wsX12_row := goodIn_ca (goodIn_qs _ [(17, 14, 1), (4, 3, 1), (4, 9, 1), (14, 9, 3), (0, 5, 1), (14, 12, 1), (4, 0, 1), (10, 1, 4)] rfl (by decide +kernel)) gt_lw_tbl_wsX120
theorem gL_X12_row : GoodIn lw_tbl (wsV RL 30 RX12 yX12_row wsX12_row) := goodIn_app (goodIn_qs _ [(17, 11, 3), (0, 5, 1)] rfl (by decide +kernel)) ggL_X12_row
set_option maxRecDepth 20000 in
theorem ggL_X11_place : GoodIn lw_tbl wsX11_place := goodIn_ca (goodIn_ca (goodIn_qs _ [(17, 18, 1), (0, 16, 1), (7, 8, 1), (10, 16, 3), (0, 2, 1), (10, 19, 1), (17, 19, 3), (0, 15, 1), (17, 22, 1), (1, 23, 1), (17, 23, 1), (10, 21, 3), (2, 0, 1)] rfl (by decide +kernel)) gt_lw_tbl_wsX110) gt_lw_tbl_wsX10
theorem gL_X11_place : GoodIn lw_tbl (wsV RL 31 RX11 yX11_place wsX11_place) := goodIn_app (goodIn_qs _ [(17, 15, 3), (0, 2, 1)] rfl (by decide +kernel)) ggL_X11_place
set_option maxRecDepth 20000 in
theorem ggL_X12_place : GoodIn lw_tbl wsX12_place := goodIn_ca (goodIn_qs _ [(18, 3, 1), (4, 0, 1), (4, 10, 1), (14, 9, 3), (0, 5, 1), (14, 12, 1), (10, 1, 4), (14, 13, 4)] rfl (by decide +kernel)) gt_lw_tbl_wsX120
theorem gL_X12_place : GoodIn lw_tbl (wsV RL 34 RX12 yX12_place wsX12_place) := goodIn_app (goodIn_qs _ [(18, 0, 3), (0, 5, 1)] rfl (by decide +kernel)) ggL_X12_place
set_option maxRecDepth 20000 in
theorem ggL_X11_feed : GoodIn lw_tbl wsX11_feed := goodIn_ca (goodIn_qs _ [(18, 7, 1), (1, 1, 1), (1, 0, 1)] rfl (by decide +kernel)) gt_lw_tbl_wsX110
theorem gL_X11_feed : GoodIn lw_tbl (wsV RL 35 RX11 yX11_feed wsX11_feed) := goodIn_app (goodIn_qs _ [(18, 4, 3), (0, 2, 1)] rfl (by decide +kernel)) ggL_X11_feed
set_option maxRecDepth 20000 in
theorem ggL_X12_feed : GoodIn lw_tbl wsX12_feed := goodIn_ca (goodIn_qs _ [(18, 11, 1), (4, 13, 1), (4, 16, 1), (10, 1, 3), (0, 5, 1), (10, 4, 1)] rfl (by decide +kernel)) gt_lw_tbl_wsX120
theorem gL_X12_feed : GoodIn lw_tbl (wsV RL 39 RX12 yX12_feed wsX12_feed) := goodIn_app (goodIn_qs _ [(18, 8, 3), (0, 5, 1)] rfl (by decide +kernel)) ggL_X12_feed
set_option maxRecDepth 20000 in
theorem ggL_X11_field : GoodIn lw_tbl wsX11_field := goodIn_ca (goodIn_ca (goodIn_ca (goodIn_qs _ [(18, 15, 1), (0, 22, 1), (0, 21, 1), (0, 20, 1), (1, 12, 2), (1, 0, 2), (0, 16, 1), (1, 14, 1), (2, 22, 2), (3, 0, 1), (0, 11, 2), (3, 1, 3), (1, 8, 1), (3, 4, 9), (18, 16, 8), (19, 0, 24), (20, 0, 24), (21, 0, 24), (22, 0, 24), (23, 0, 24), (24, 0, 24), (25, 0, 23)] rfl (by decide +kernel)) gt_lw_tbl_wsX110) gt_lw_tbl_wsX20) gt_lw_tbl_wsX10
theorem gL_X11_field : GoodIn lw_tbl (wsV RL 40 RX11 yX11_field wsX11_field) := goodIn_app (goodIn_qs _ [(18, 12, 3), (0, 2, 1)] rfl (by decide +kernel)) ggL_X11_field
set_option maxRecDepth 20000 in
theorem ggL_X12_field : GoodIn lw_tbl wsX12_field := goodIn_ca (goodIn_qs _ [(26, 2, 1), (4, 11, 1), (4, 13, 2), (4, 12, 1), (26, 3, 3), (0, 5, 1), (26, 6, 1), (5, 0, 1), (4, 17, 1), (26, 7, 4), (4, 19, 1), (4, 15, 1), (4, 18, 1), (26, 11, 8), (4, 16, 1), (26, 19, 4), (5, 3, 1), (26, 23, 1), (27, 0, 11), (10, 1, 4), (27, 11, 4), (5, 1, 2), (4, 20, 1), (4, 23, 1), (4, 21, 1), (27, 15, 9), (28, 0, 3), (4, 22, 1), (28, 3, 8)] rfl (by decide +kernel)) gt_lw_tbl_wsX120
theorem gL_X12_field : GoodIn lw_tbl (wsV RL 44 RX12 yX12_field wsX12_field) := goodIn_app (goodIn_qs _ [(25, 23, 1), (26, 0, 2), (0, 5, 1)] rfl (by decide +kernel)) ggL_X12_field
set_option maxRecDepth 20000 in
theorem ggL_X11_told : GoodIn lw_tbl wsX11_told := goodIn_ca (goodIn_ca (goodIn_ca (goodIn_qs _ [(28, 14, 1), (0, 16, 1), (28, 15, 1), (1, 14, 1), (28, 16, 3), (7, 8, 1), (28, 19, 1)] rfl (by decide +kernel)) gt_lw_tbl_wsX110) gt_lw_tbl_wsX10) gt_lw_tbl_wsX20
theorem gL_X11_told : GoodIn lw_tbl (wsV RL 45 RX11 yX11_told wsX11_told) := goodIn_app (goodIn_qs _ [(28, 11, 3), (0, 2, 1)] rfl (by decide +kernel)) ggL_X11_told
set_option maxRecDepth 20000 in
theorem ggL_X12_told : GoodIn lw_tbl wsX12_told := goodIn_ca (goodIn_qs _ [(28, 23, 1), (4, 0, 1), (4, 10, 1), (4, 1, 1), (10, 1, 3), (0, 5, 1), (10, 4, 1), (16, 9, 4), (5, 4, 1), (16, 13, 4), (4, 18, 2), (14, 21, 3), (15, 0, 1), (4, 12, 1), (15, 1, 4), (4, 17, 1), (29, 0, 4), (15, 13, 4)] rfl (by decide +kernel)) gt_lw_tbl_wsX120
theorem gL_X12_told : GoodIn lw_tbl (wsV RL 48 RX12 yX12_told wsX12_told) := goodIn_app (goodIn_qs _ [(28, 20, 3), (0, 5, 1)] rfl (by decide +kernel)) ggL_X12_told
set_option maxRecDepth 20000 in
theorem ggL_X11_minute : GoodIn lw_tbl wsX11_minute := goodIn_ca (goodIn_ca (goodIn_ca (goodIn_ca (goodIn_ca (goodIn_ca (goodIn_ca (goodIn_ca (goodIn_ca (goodIn_ca (goodIn_qs _ [(29, 7, 1), (0, 16, 1), (28, 15, 1), (29, 8, 3), (0, 15, 1), (29, 11, 1), (2, 0, 1), (2, 13, 1), (1, 23, 1), (2, 4, 1), (2, 1, 1), (2, 6, 1), (29, 12, 1), (11, 14, 3), (1, 21, 1), (2, 2, 1), (11, 17, 1), (11, 1, 3), (2, 14, 1), (11, 4, 1), (2, 3, 1), (2, 7, 1), (11, 5, 3), (1, 13, 1), (11, 8, 1), (3, 9, 1), (3, 6, 1), (3, 8, 1), (3, 7, 1), (11, 9, 4), (3, 5, 1), (3, 4, 1), (11, 18, 5), (7, 20, 1), (11, 23, 1), (12, 0, 3), (8, 8, 1), (12, 3, 2), (8, 17, 1), (12, 5, 2), (7, 17, 1), (12, 7, 12), (7, 23, 1), (12, 19, 5), (13, 0, 2), (7, 14, 1), (13, 2, 3), (8, 2, 1), (13, 5, 12), (2, 8, 1), (13, 17, 4), (8, 5, 1), (13, 21, 3), (14, 0, 5), (29, 13, 5), (18, 21, 3), (29, 18, 1), (20, 17, 2), (29, 19, 5)] rfl (by decide +kernel)) gt_lw_tbl_wsX110) gt_lw_tbl_wsX10) gt_lw_tbl_wsX00) gt_lw_tbl_wsX30) gt_lw_tbl_wsX40) gt_lw_tbl_wsX60) gt_lw_tbl_wsX70) gt_lw_tbl_wsX80) gt_lw_tbl_wsX100) gt_lw_tbl_wsX20
theorem gL_X11_minute : GoodIn lw_tbl (wsV RL 49 RX11 yX11_minute wsX11_minute) := goodIn_app (goodIn_qs _ [(29, 4, 3), (0, 2, 1)] rfl (by decide +kernel)) ggL_X11_minute
set_option maxRecDepth 20000 in
theorem ggL_X12_minute : GoodIn lw_tbl wsX12_minute := goodIn_ca (goodIn_qs _ [(30, 3, 1), (4, 1, 1), (30, 4, 3), (0, 5, 1), (30, 7, 1), (4, 2, 1), (5, 8, 1), (4, 10, 1), (5, 9, 1), (15, 17, 4), (4, 6, 1), (14, 17, 4), (5, 7, 1), (4, 18, 2), (14, 21, 3), (15, 0, 1), (4, 12, 1), (15, 1, 4), (4, 17, 1), (15, 5, 4), (4, 20, 3), (5, 6, 1), (15, 9, 4), (4, 3, 1), (4, 7, 1), (15, 13, 4), (15, 21, 3), (16, 0, 1), (4, 4, 1), (4, 9, 1), (16, 1, 8), (4, 5, 1), (16, 9, 4), (5, 4, 1), (16, 13, 4), (30, 8, 4), (4, 8, 1), (30, 12, 4)] rfl (by decide +kernel)) gt_lw_tbl_wsX120
theorem gL_X12_minute : GoodIn lw_tbl (wsV RL 52 RX12 yX12_minute wsX12_minute) := goodIn_app (goodIn_qs _ [(30, 0, 3), (0, 5, 1)] rfl (by decide +kernel)) ggL_X12_minute
set_option maxRecDepth 20000 in
theorem ggL_X11_whet : GoodIn lw_tbl wsX11_whet := goodIn_ca (goodIn_ca (goodIn_qs _ [(30, 19, 1), (0, 16, 1), (28, 15, 1), (30, 20, 3), (0, 15, 1), (30, 23, 1), (1, 22, 1), (2, 2, 1), (31, 0, 4), (2, 3, 1), (29, 18, 1), (20, 17, 1), (18, 22, 1), (20, 18, 1), (2, 4, 1), (2, 6, 1)] rfl (by decide +kernel)) gt_lw_tbl_wsX110) gt_lw_tbl_wsX10
theorem gL_X11_whet : GoodIn lw_tbl (wsV RL 53 RX11 yX11_whet wsX11_whet) := goodIn_app (goodIn_qs _ [(30, 16, 3), (0, 2, 1)] rfl (by decide +kernel)) ggL_X11_whet
set_option maxRecDepth 20000 in
theorem ggL_X12_whet : GoodIn lw_tbl wsX12_whet := goodIn_ca (goodIn_qs _ [(31, 7, 1), (4, 1, 1), (31, 8, 3), (0, 5, 1), (31, 11, 1), (4, 0, 1), (4, 6, 3), (15, 13, 4)] rfl (by decide +kernel)) gt_lw_tbl_wsX120
theorem gL_X12_whet : GoodIn lw_tbl (wsV RL 56 RX12 yX12_whet wsX12_whet) := goodIn_app (goodIn_qs _ [(31, 4, 3), (0, 5, 1)] rfl (by decide +kernel)) ggL_X12_whet
set_option maxRecDepth 20000 in
theorem ggL_X11_pause : GoodIn lw_tbl wsX11_pause := goodIn_ca (goodIn_ca (goodIn_qs _ [(31, 15, 1), (0, 16, 1), (28, 15, 1), (31, 16, 3), (0, 15, 1), (31, 19, 1), (31, 0, 4), (1, 22, 1), (2, 3, 1), (29, 18, 1), (20, 17, 1), (18, 22, 1), (20, 18, 1), (2, 4, 1), (2, 6, 1)] rfl (by decide +kernel)) gt_lw_tbl_wsX110) gt_lw_tbl_wsX10
theorem gL_X11_pause : GoodIn lw_tbl (wsV RL 57 RX11 yX11_pause wsX11_pause) := goodIn_app (goodIn_qs _ [(31, 12, 3), (0, 2, 1)] rfl (by decide +kernel)) ggL_X11_pause
set_option maxRecDepth 20000 in
theorem ggL_X12_pause : GoodIn lw_tbl wsX12_pause := goodIn_ca (goodIn_qs _ [(31, 23, 1), (4, 1, 1), (10, 1, 3), (0, 5, 1), (10, 4, 1), (32, 0, 4), (4, 0, 1), (4, 7, 2), (15, 13, 4)] rfl (by decide +kernel)) gt_lw_tbl_wsX120
theorem gL_X12_pause : GoodIn lw_tbl (wsV RL 60 RX12 yX12_pause wsX12_pause) := goodIn_app (goodIn_qs _ [(31, 20, 3), (0, 5, 1)] rfl (by decide +kernel)) ggL_X12_pause
set_option maxRecDepth 20000 in
theorem ggL_X11_on : GoodIn lw_tbl wsX11_on := goodIn_ca (goodIn_ca (goodIn_ca (goodIn_ca (goodIn_ca (goodIn_ca (goodIn_ca (goodIn_ca (goodIn_ca (goodIn_ca (goodIn_qs _ [(32, 7, 1), (0, 18, 1), (0, 16, 1), (10, 12, 1), (10, 16, 3), (0, 2, 1), (10, 19, 1), (7, 8, 1), (32, 8, 3), (0, 15, 1), (32, 11, 1), (1, 22, 1), (2, 0, 1), (2, 6, 3), (1, 21, 1), (1, 23, 1), (2, 1, 5), (32, 12, 8), (29, 8, 4), (2, 13, 1), (29, 12, 1), (11, 14, 4), (11, 1, 3), (2, 14, 1), (11, 4, 4), (1, 13, 1), (11, 8, 1), (3, 9, 1), (3, 6, 1), (3, 8, 1), (3, 7, 1), (11, 9, 4), (3, 5, 1), (3, 4, 1), (11, 18, 5), (7, 20, 1), (11, 23, 1), (12, 0, 3), (8, 8, 1), (12, 3, 2), (8, 17, 1), (12, 5, 2), (7, 17, 1), (12, 7, 12), (7, 23, 1), (12, 19, 5), (13, 0, 2), (7, 14, 1), (13, 2, 3), (8, 2, 1), (13, 5, 16), (8, 5, 1), (13, 21, 3), (14, 0, 5), (29, 13, 5), (18, 21, 3), (29, 18, 1), (20, 17, 2), (29, 19, 5), (32, 20, 4), (33, 0, 5)] rfl (by decide +kernel)) gt_lw_tbl_wsX110) gt_lw_tbl_wsX10) gt_lw_tbl_wsX00) gt_lw_tbl_wsX30) gt_lw_tbl_wsX40) gt_lw_tbl_wsX60) gt_lw_tbl_wsX70) gt_lw_tbl_wsX80) gt_lw_tbl_wsX100) gt_lw_tbl_wsX20
theorem gL_X11_on : GoodIn lw_tbl (wsV RL 61 RX11 yX11_on wsX11_on) := goodIn_app (goodIn_qs _ [(32, 4, 3), (0, 2, 1)] rfl (by decide +kernel)) ggL_X11_on
set_option maxRecDepth 20000 in
theorem ggL_X12_on : GoodIn lw_tbl wsX12_on := goodIn_ca (goodIn_qs _ [(33, 8, 1), (4, 0, 1), (4, 5, 1), (5, 9, 1), (10, 1, 3), (0, 5, 1), (10, 4, 1), (33, 9, 4), (4, 1, 1), (5, 10, 3), (4, 6, 1), (5, 13, 1), (4, 7, 1), (5, 14, 1), (4, 8, 1), (33, 13, 4), (30, 4, 4), (4, 2, 1), (5, 8, 1), (4, 10, 1), (15, 17, 4), (14, 17, 4), (5, 7, 1), (4, 18, 2), (14, 21, 3), (15, 0, 1), (4, 12, 1), (15, 1, 4), (4, 17, 1), (15, 5, 4), (4, 20, 3), (5, 6, 1), (15, 9, 4), (4, 3, 1), (15, 13, 4), (15, 21, 3), (16, 0, 1), (4, 4, 1), (4, 9, 1), (16, 1, 12), (5, 4, 1), (16, 13, 4), (30, 8, 8), (33, 17, 7), (34, 0, 1)] rfl (by decide +kernel)) gt_lw_tbl_wsX120
theorem gL_X12_on : GoodIn lw_tbl (wsV RL 64 RX12 yX12_on wsX12_on) := goodIn_app (goodIn_qs _ [(33, 5, 3), (0, 5, 1)] rfl (by decide +kernel)) ggL_X12_on
set_option maxRecDepth 20000 in
theorem ggL_X11_done : GoodIn lw_tbl wsX11_done := goodIn_ca (goodIn_ca (goodIn_ca (goodIn_ca (goodIn_ca (goodIn_ca (goodIn_ca (goodIn_ca (goodIn_ca (goodIn_ca (goodIn_qs _ [(34, 4, 1), (0, 18, 1), (0, 16, 1), (32, 8, 3), (0, 15, 1), (32, 11, 1), (1, 22, 1), (2, 0, 1), (2, 6, 3), (1, 21, 1), (1, 23, 1), (2, 1, 5), (32, 12, 4), (34, 5, 5), (29, 8, 4), (2, 13, 1), (29, 12, 1), (11, 14, 4), (11, 1, 3), (2, 14, 1), (11, 4, 4), (1, 13, 1), (11, 8, 1), (3, 9, 1), (3, 6, 1), (3, 8, 1), (3, 7, 1), (11, 9, 4), (3, 5, 1), (3, 4, 1), (11, 18, 5), (7, 20, 1), (11, 23, 1), (12, 0, 3), (8, 8, 1), (12, 3, 2), (8, 17, 1), (12, 5, 2), (7, 17, 1), (12, 7, 12), (7, 23, 1), (12, 19, 5), (13, 0, 2), (7, 14, 1), (13, 2, 3), (8, 2, 1), (13, 5, 16), (8, 5, 1), (13, 21, 3), (14, 0, 5), (29, 13, 5), (18, 21, 3), (29, 18, 1), (20, 17, 2), (29, 19, 5)] rfl (by decide +kernel)) gt_lw_tbl_wsX110) gt_lw_tbl_wsX10) gt_lw_tbl_wsX20) gt_lw_tbl_wsX00) gt_lw_tbl_wsX30) gt_lw_tbl_wsX40) gt_lw_tbl_wsX60) gt_lw_tbl_wsX70) gt_lw_tbl_wsX80) gt_lw_tbl_wsX100
theorem gL_X11_done : GoodIn lw_tbl (wsV RL 65 RX11 yX11_done wsX11_done) := goodIn_app (goodIn_qs _ [(34, 1, 3), (0, 2, 1)] rfl (by decide +kernel)) ggL_X11_done
set_option maxRecDepth 20000 in
theorem ggL_X12_done : GoodIn lw_tbl wsX12_done := goodIn_ca (goodIn_qs _ [(34, 13, 1), (33, 9, 3), (0, 5, 1), (33, 12, 1), (4, 1, 1), (5, 10, 2), (4, 5, 1), (5, 12, 1), (4, 6, 1), (5, 13, 1), (4, 7, 1), (5, 14, 1), (4, 8, 1), (5, 9, 1), (34, 14, 4), (4, 0, 1), (29, 0, 4), (16, 13, 4), (4, 18, 2), (14, 21, 3), (15, 0, 1), (4, 12, 1), (15, 1, 4), (4, 17, 1), (15, 13, 4), (33, 13, 4), (30, 4, 4), (4, 2, 1), (5, 8, 1), (4, 10, 1), (15, 17, 4), (14, 17, 4), (5, 7, 1), (15, 5, 4), (4, 20, 3), (5, 6, 1), (15, 9, 4), (4, 3, 1), (15, 21, 3), (16, 0, 1), (4, 4, 1), (4, 9, 1), (16, 1, 12), (5, 4, 1), (30, 8, 8), (33, 21, 3), (34, 0, 1)] rfl (by decide +kernel)) gt_lw_tbl_wsX120
theorem gL_X12_done : GoodIn lw_tbl (wsV RL 68 RX12 yX12_done wsX12_done) := goodIn_app (goodIn_qs _ [(34, 10, 3), (0, 5, 1)] rfl (by decide +kernel)) ggL_X12_done
set_option maxRecDepth 20000 in
theorem ggL_X11_order : GoodIn lw_tbl wsX11_order := goodIn_ca (goodIn_ca (goodIn_ca (goodIn_ca (goodIn_ca (goodIn_ca (goodIn_ca (goodIn_ca (goodIn_ca (goodIn_ca (goodIn_qs _ [(34, 21, 1), (0, 16, 1), (7, 8, 1), (1, 10, 1), (34, 22, 2), (35, 0, 1), (0, 2, 1), (35, 1, 2), (18, 21, 3), (1, 9, 1), (35, 3, 1), (32, 13, 3), (35, 4, 4), (0, 18, 1), (28, 19, 1), (10, 12, 1), (32, 8, 3), (0, 15, 1), (32, 11, 1), (1, 22, 1), (2, 0, 1), (2, 6, 3), (1, 21, 1), (1, 23, 1), (2, 1, 5), (32, 12, 1), (29, 8, 4), (2, 13, 1), (29, 12, 1), (11, 14, 4), (11, 1, 3), (2, 14, 1), (11, 4, 4), (1, 13, 1), (11, 8, 1), (3, 9, 1), (3, 6, 1), (3, 8, 1), (3, 7, 1), (11, 9, 4), (3, 5, 1), (3, 4, 1), (11, 18, 5), (7, 20, 1), (11, 23, 1), (12, 0, 3), (8, 8, 1), (12, 3, 2), (8, 17, 1), (12, 5, 2), (7, 17, 1), (12, 7, 12), (7, 23, 1), (12, 19, 5), (13, 0, 2), (7, 14, 1), (13, 2, 3), (8, 2, 1), (13, 5, 16), (8, 5, 1), (13, 21, 3), (14, 0, 5), (29, 13, 6), (20, 17, 2), (29, 19, 5), (33, 1, 4), (35, 8, 8)] rfl (by decide +kernel)) gt_lw_tbl_wsX110) gt_lw_tbl_wsX10) gt_lw_tbl_wsX00) gt_lw_tbl_wsX30) gt_lw_tbl_wsX40) gt_lw_tbl_wsX60) gt_lw_tbl_wsX70) gt_lw_tbl_wsX80) gt_lw_tbl_wsX100) gt_lw_tbl_wsX20
theorem gL_X11_order : GoodIn lw_tbl (wsV RL 69 RX11 yX11_order wsX11_order) := goodIn_app (goodIn_qs _ [(34, 18, 3), (0, 2, 1)] rfl (by decide +kernel)) ggL_X11_order
set_option maxRecDepth 20000 in
theorem ggL_X12_order : GoodIn lw_tbl wsX12_order := goodIn_ca (goodIn_qs _ [(35, 19, 1), (4, 0, 1), (5, 15, 1), (4, 10, 1), (5, 16, 1), (10, 1, 3), (0, 5, 1), (10, 4, 1), (35, 20, 4), (36, 0, 8), (4, 5, 1), (33, 9, 4), (4, 1, 1), (5, 10, 3), (4, 6, 1), (5, 13, 1), (4, 7, 1), (5, 14, 1), (4, 8, 1), (5, 9, 1), (33, 13, 4), (30, 4, 4), (4, 2, 1), (5, 8, 1), (15, 17, 4), (14, 17, 4), (5, 7, 1), (4, 18, 2), (14, 21, 3), (15, 0, 1), (4, 12, 1), (15, 1, 4), (4, 17, 1), (15, 5, 4), (4, 20, 3), (5, 6, 1), (15, 9, 4), (4, 3, 1), (15, 13, 4), (15, 21, 3), (16, 0, 1), (4, 4, 1), (4, 9, 1), (16, 1, 12), (5, 4, 1), (16, 13, 4), (30, 8, 8), (33, 17, 7), (34, 0, 1)] rfl (by decide +kernel)) gt_lw_tbl_wsX120
theorem gL_X12_order : GoodIn lw_tbl (wsV RL 72 RX12 yX12_order wsX12_order) := goodIn_app (goodIn_qs _ [(35, 16, 3), (0, 5, 1)] rfl (by decide +kernel)) ggL_X12_order
set_option maxRecDepth 20000 in
theorem ggL_X11_whets : GoodIn lw_tbl wsX11_whets := goodIn_ca (goodIn_ca (goodIn_ca (goodIn_ca (goodIn_ca (goodIn_ca (goodIn_ca (goodIn_ca (goodIn_ca (goodIn_ca (goodIn_qs _ [(36, 11, 4), (0, 2, 1), (36, 15, 5), (0, 18, 1), (0, 16, 1), (36, 20, 1), (10, 15, 1), (32, 8, 3), (0, 15, 1), (32, 11, 1), (1, 22, 1), (2, 0, 1), (2, 6, 3), (1, 21, 1), (1, 23, 1), (2, 1, 5), (32, 12, 4), (10, 16, 4), (7, 8, 1), (31, 16, 4), (31, 0, 4), (29, 18, 1), (20, 17, 1), (18, 22, 1), (20, 18, 1), (36, 21, 3), (30, 20, 4), (29, 8, 4), (2, 13, 1), (29, 12, 1), (11, 14, 4), (11, 1, 3), (2, 14, 1), (11, 4, 4), (1, 13, 1), (11, 8, 1), (3, 9, 1), (3, 6, 1), (3, 8, 1), (3, 7, 1), (11, 9, 4), (3, 5, 1), (3, 4, 1), (11, 18, 5), (7, 20, 1), (11, 23, 1), (12, 0, 3), (8, 8, 1), (12, 3, 2), (8, 17, 1), (12, 5, 2), (7, 17, 1), (12, 7, 12), (7, 23, 1), (12, 19, 5), (13, 0, 2), (7, 14, 1), (13, 2, 3), (8, 2, 1), (13, 5, 16), (8, 5, 1), (13, 21, 3), (14, 0, 5), (29, 13, 5), (18, 21, 1), (18, 23, 1), (29, 19, 5), (33, 1, 4)] rfl (by decide +kernel)) gt_lw_tbl_wsX110) gt_lw_tbl_wsX10) gt_lw_tbl_wsX00) gt_lw_tbl_wsX30) gt_lw_tbl_wsX40) gt_lw_tbl_wsX60) gt_lw_tbl_wsX70) gt_lw_tbl_wsX80) gt_lw_tbl_wsX100) gt_lw_tbl_wsX20
theorem gL_X11_whets : GoodIn lw_tbl (wsV RL 73 RX11 yX11_whets wsX11_whets) := goodIn_app (goodIn_qs _ [(36, 8, 3), (0, 2, 1)] rfl (by decide +kernel)) ggL_X11_whets
set_option maxRecDepth 20000 in
theorem ggL_X12_whets : GoodIn lw_tbl wsX12_whets := goodIn_ca (goodIn_qs _ [(37, 3, 1), (10, 1, 3), (0, 5, 1), (10, 4, 1), (37, 4, 4), (33, 9, 4), (4, 1, 1), (5, 10, 2), (4, 5, 1), (5, 12, 1), (4, 6, 1), (5, 13, 1), (4, 7, 1), (5, 14, 1), (4, 8, 1), (5, 9, 1), (31, 8, 4), (4, 0, 1), (15, 13, 4), (33, 13, 4), (30, 4, 4), (4, 2, 1), (5, 8, 1), (4, 10, 1), (15, 17, 4), (14, 17, 4), (5, 7, 1), (4, 18, 2), (14, 21, 3), (15, 0, 1), (4, 12, 1), (15, 1, 4), (4, 17, 1), (15, 5, 4), (4, 20, 3), (5, 6, 1), (15, 9, 4), (4, 3, 1), (15, 21, 3), (16, 0, 1), (4, 4, 1), (4, 9, 1), (16, 1, 12), (5, 4, 1), (16, 13, 4), (30, 8, 8), (33, 17, 7), (34, 0, 1)] rfl (by decide +kernel)) gt_lw_tbl_wsX120
theorem gL_X12_whets : GoodIn lw_tbl (wsV RL 76 RX12 yX12_whets wsX12_whets) := goodIn_app (goodIn_qs _ [(37, 0, 3), (0, 5, 1)] rfl (by decide +kernel)) ggL_X12_whets
set_option maxRecDepth 20000 in
theorem ggL_X11_apart : GoodIn lw_tbl wsX11_apart := goodIn_ca (goodIn_ca (goodIn_ca (goodIn_ca (goodIn_ca (goodIn_ca (goodIn_ca (goodIn_ca (goodIn_ca (goodIn_ca (goodIn_qs _ [(37, 11, 1), (36, 12, 3), (0, 2, 1), (36, 15, 5), (0, 18, 1), (0, 16, 1), (36, 20, 1), (10, 15, 1), (32, 8, 3), (0, 15, 1), (32, 11, 1), (1, 22, 1), (2, 0, 1), (2, 6, 3), (1, 21, 1), (1, 23, 1), (2, 1, 5), (32, 12, 4), (10, 16, 4), (7, 8, 1), (31, 16, 4), (31, 0, 4), (29, 18, 1), (20, 17, 1), (18, 22, 1), (20, 18, 1), (36, 21, 3), (30, 20, 4), (29, 8, 4), (2, 13, 1), (29, 12, 1), (11, 14, 4), (11, 1, 3), (2, 14, 1), (11, 4, 4), (1, 13, 1), (11, 8, 1), (3, 9, 1), (3, 6, 1), (3, 8, 1), (3, 7, 1), (11, 9, 4), (3, 5, 1), (3, 4, 1), (11, 18, 5), (7, 20, 1), (11, 23, 1), (12, 0, 3), (8, 8, 1), (12, 3, 2), (8, 17, 1), (12, 5, 2), (7, 17, 1), (12, 7, 12), (7, 23, 1), (12, 19, 5), (13, 0, 2), (7, 14, 1), (13, 2, 3), (8, 2, 1), (13, 5, 16), (8, 5, 1), (13, 21, 3), (14, 0, 5), (29, 13, 5), (18, 21, 1), (18, 23, 1), (29, 19, 5), (33, 1, 4)] rfl (by decide +kernel)) gt_lw_tbl_wsX110) gt_lw_tbl_wsX10) gt_lw_tbl_wsX00) gt_lw_tbl_wsX30) gt_lw_tbl_wsX40) gt_lw_tbl_wsX60) gt_lw_tbl_wsX70) gt_lw_tbl_wsX80) gt_lw_tbl_wsX100) gt_lw_tbl_wsX20
theorem gL_X11_apart : GoodIn lw_tbl (wsV RL 77 RX11 yX11_apart wsX11_apart) := goodIn_app (goodIn_qs _ [(37, 8, 3), (0, 2, 1)] rfl (by decide +kernel)) ggL_X11_apart
set_option maxRecDepth 20000 in
theorem ggL_X12_apart : GoodIn lw_tbl wsX12_apart := goodIn_ca (goodIn_qs _ [(37, 15, 1), (5, 4, 1), (10, 1, 3), (0, 5, 1), (10, 4, 1), (37, 16, 4), (33, 9, 4), (4, 1, 1), (5, 10, 2), (4, 5, 1), (5, 12, 1), (4, 6, 1), (5, 13, 1), (4, 7, 1), (5, 14, 1), (4, 8, 1), (5, 9, 1), (33, 13, 4), (30, 4, 4), (4, 2, 1), (5, 8, 1), (4, 10, 1), (15, 17, 4), (14, 17, 4), (5, 7, 1), (4, 18, 2), (14, 21, 3), (15, 0, 1), (4, 12, 1), (15, 1, 4), (4, 17, 1), (15, 5, 4), (4, 20, 3), (5, 6, 1), (15, 9, 4), (4, 3, 1), (15, 13, 4), (15, 21, 3), (16, 0, 1), (4, 4, 1), (4, 9, 1), (16, 1, 16), (30, 8, 8), (33, 17, 4), (4, 0, 1), (33, 21, 3), (34, 0, 1)] rfl (by decide +kernel)) gt_lw_tbl_wsX120
theorem gL_X12_apart : GoodIn lw_tbl (wsV RL 80 RX12 yX12_apart wsX12_apart) := goodIn_app (goodIn_qs _ [(37, 12, 3), (0, 5, 1)] rfl (by decide +kernel)) ggL_X12_apart
set_option maxRecDepth 20000 in
theorem ggL_X11_stop : GoodIn lw_tbl wsX11_stop := goodIn_ca (goodIn_ca (goodIn_ca (goodIn_ca (goodIn_ca (goodIn_ca (goodIn_ca (goodIn_ca (goodIn_ca (goodIn_ca (goodIn_qs _ [(37, 23, 1), (38, 0, 2), (0, 18, 1), (0, 16, 1), (10, 12, 1), (1, 11, 1), (35, 3, 1), (32, 13, 3), (10, 15, 4), (0, 2, 1), (10, 19, 1), (7, 8, 1), (32, 8, 3), (0, 15, 1), (32, 11, 1), (1, 22, 1), (2, 0, 1), (2, 6, 3), (1, 21, 1), (1, 23, 1), (2, 1, 5), (32, 12, 1), (32, 20, 4), (33, 0, 1), (29, 9, 3), (2, 13, 1), (29, 12, 1), (11, 14, 4), (11, 1, 3), (2, 14, 1), (11, 4, 4), (1, 13, 1), (11, 8, 1), (3, 9, 1), (3, 6, 1), (3, 8, 1), (3, 7, 1), (11, 9, 4), (3, 5, 1), (3, 4, 1), (11, 18, 5), (7, 20, 1), (11, 23, 1), (12, 0, 3), (8, 8, 1), (12, 3, 2), (8, 17, 1), (12, 5, 2), (7, 17, 1), (12, 7, 12), (7, 23, 1), (12, 19, 5), (13, 0, 2), (7, 14, 1), (13, 2, 3), (8, 2, 1), (13, 5, 16), (8, 5, 1), (13, 21, 3), (14, 0, 5), (29, 13, 5), (18, 21, 3), (29, 18, 1), (20, 17, 2), (29, 19, 5), (33, 1, 4), (38, 2, 4)] rfl (by decide +kernel)) gt_lw_tbl_wsX110) gt_lw_tbl_wsX10) gt_lw_tbl_wsX00) gt_lw_tbl_wsX30) gt_lw_tbl_wsX40) gt_lw_tbl_wsX60) gt_lw_tbl_wsX70) gt_lw_tbl_wsX80) gt_lw_tbl_wsX100) gt_lw_tbl_wsX20
theorem gL_X11_stop : GoodIn lw_tbl (wsV RL 81 RX11 yX11_stop wsX11_stop) := goodIn_app (goodIn_qs _ [(37, 20, 3), (0, 2, 1)] rfl (by decide +kernel)) ggL_X11_stop
set_option maxRecDepth 20000 in
theorem ggL_X12_stop : GoodIn lw_tbl wsX12_stop := goodIn_ca (goodIn_qs _ [(38, 9, 3), (5, 17, 1), (4, 5, 1), (4, 8, 1), (4, 0, 1), (14, 9, 3), (0, 5, 1), (14, 12, 1), (10, 1, 4), (33, 9, 4), (4, 1, 1), (5, 10, 3), (4, 6, 1), (5, 13, 1), (4, 7, 1), (5, 14, 1), (5, 9, 1), (33, 13, 4), (30, 4, 4), (4, 2, 1), (5, 8, 1), (4, 10, 1), (15, 17, 4), (14, 17, 4), (5, 7, 1), (4, 18, 2), (14, 21, 3), (15, 0, 1), (4, 12, 1), (15, 1, 4), (4, 17, 1), (15, 5, 4), (4, 20, 3), (5, 6, 1), (15, 9, 4), (4, 3, 1), (15, 13, 4), (15, 21, 3), (16, 0, 1), (4, 4, 1), (4, 9, 1), (16, 1, 12), (5, 4, 1), (16, 13, 4), (30, 8, 8), (33, 17, 7), (34, 0, 1)] rfl (by decide +kernel)) gt_lw_tbl_wsX120
theorem gL_X12_stop : GoodIn lw_tbl (wsV RL 85 RX12 yX12_stop wsX12_stop) := goodIn_app (goodIn_qs _ [(38, 6, 3), (0, 5, 1)] rfl (by decide +kernel)) ggL_X12_stop
set_option maxRecDepth 20000 in
theorem ggL_X11_alone : GoodIn lw_tbl wsX11_alone := goodIn_ca (goodIn_ca (goodIn_ca (goodIn_ca (goodIn_ca (goodIn_ca (goodIn_ca (goodIn_ca (goodIn_ca (goodIn_ca (goodIn_qs _ [(38, 15, 1), (38, 1, 1), (0, 18, 1), (0, 16, 1), (7, 8, 1), (28, 19, 1), (38, 16, 1), (10, 12, 1), (32, 8, 3), (0, 15, 1), (32, 11, 1), (1, 22, 1), (2, 0, 1), (2, 6, 3), (1, 21, 1), (1, 23, 1), (2, 1, 5), (32, 12, 4), (32, 20, 4), (33, 0, 1), (29, 9, 3), (2, 13, 1), (29, 12, 1), (11, 14, 4), (11, 1, 3), (2, 14, 1), (11, 4, 4), (1, 13, 1), (11, 8, 1), (3, 9, 1), (3, 6, 1), (3, 8, 1), (3, 7, 1), (11, 9, 4), (3, 5, 1), (3, 4, 1), (11, 18, 5), (7, 20, 1), (11, 23, 1), (12, 0, 3), (8, 8, 1), (12, 3, 2), (8, 17, 1), (12, 5, 2), (7, 17, 1), (12, 7, 12), (7, 23, 1), (12, 19, 5), (13, 0, 2), (7, 14, 1), (13, 2, 3), (8, 2, 1), (13, 5, 16), (8, 5, 1), (13, 21, 3), (14, 0, 5), (29, 13, 5), (18, 21, 3), (29, 18, 1), (20, 17, 2), (29, 19, 5), (33, 1, 4)] rfl (by decide +kernel)) gt_lw_tbl_wsX110) gt_lw_tbl_wsX10) gt_lw_tbl_wsX00) gt_lw_tbl_wsX30) gt_lw_tbl_wsX40) gt_lw_tbl_wsX60) gt_lw_tbl_wsX70) gt_lw_tbl_wsX80) gt_lw_tbl_wsX100) gt_lw_tbl_wsX20
theorem gL_X11_alone : GoodIn lw_tbl (wsV RL 86 RX11 yX11_alone wsX11_alone) := goodIn_app (goodIn_qs _ [(38, 12, 3), (0, 2, 1)] rfl (by decide +kernel)) ggL_X11_alone
set_option maxRecDepth 20000 in
theorem ggL_X12_alone : GoodIn lw_tbl wsX12_alone := goodIn_ca (goodIn_qs _ [(38, 20, 1), (38, 11, 1), (4, 0, 1), (10, 1, 3), (0, 5, 1), (10, 4, 1), (37, 16, 4), (33, 9, 4), (4, 1, 1), (5, 10, 2), (4, 5, 1), (5, 12, 1), (4, 6, 1), (5, 13, 1), (4, 7, 1), (5, 14, 1), (4, 8, 1), (5, 9, 1), (33, 13, 4), (30, 4, 4), (4, 2, 1), (5, 8, 1), (4, 10, 1), (15, 17, 4), (14, 17, 4), (5, 7, 1), (4, 18, 2), (14, 21, 3), (15, 0, 1), (4, 12, 1), (15, 1, 4), (4, 17, 1), (15, 5, 4), (4, 20, 3), (5, 6, 1), (15, 9, 4), (4, 3, 1), (15, 13, 4), (15, 21, 3), (16, 0, 1), (4, 4, 1), (4, 9, 1), (16, 1, 12), (5, 4, 1), (16, 13, 4), (30, 8, 8), (33, 17, 7), (34, 0, 1), (38, 21, 3), (39, 0, 1), (5, 15, 1)] rfl (by decide +kernel)) gt_lw_tbl_wsX120
theorem gL_X12_alone : GoodIn lw_tbl (wsV RL 89 RX12 yX12_alone wsX12_alone) := goodIn_app (goodIn_qs _ [(38, 17, 3), (0, 5, 1)] rfl (by decide +kernel)) ggL_X12_alone
set_option maxRecDepth 20000 in
theorem ggL_X11_rest : GoodIn lw_tbl wsX11_rest := goodIn_ca (goodIn_ca (goodIn_ca (goodIn_ca (goodIn_ca (goodIn_ca (goodIn_ca (goodIn_ca (goodIn_ca (goodIn_ca (goodIn_qs _ [(39, 4, 1), (0, 16, 1), (7, 8, 1), (36, 12, 3), (0, 2, 1), (36, 15, 5), (0, 18, 1), (36, 20, 1), (10, 15, 1), (32, 8, 3), (0, 15, 1), (32, 11, 1), (1, 22, 1), (2, 0, 1), (2, 6, 3), (1, 21, 1), (1, 23, 1), (2, 1, 5), (32, 12, 4), (10, 16, 4), (31, 16, 4), (31, 0, 4), (29, 18, 1), (20, 17, 1), (18, 22, 1), (20, 18, 1), (36, 21, 3), (30, 20, 4), (29, 8, 4), (2, 13, 1), (29, 12, 1), (11, 14, 4), (11, 1, 3), (2, 14, 1), (11, 4, 4), (1, 13, 1), (11, 8, 1), (3, 9, 1), (3, 6, 1), (3, 8, 1), (3, 7, 1), (11, 9, 4), (3, 5, 1), (3, 4, 1), (11, 18, 5), (7, 20, 1), (11, 23, 1), (12, 0, 3), (8, 8, 1), (12, 3, 2), (8, 17, 1), (12, 5, 2), (7, 17, 1), (12, 7, 12), (7, 23, 1), (12, 19, 5), (13, 0, 2), (7, 14, 1), (13, 2, 3), (8, 2, 1), (13, 5, 16), (8, 5, 1), (13, 21, 3), (14, 0, 5), (29, 13, 5), (18, 21, 1), (18, 23, 1), (29, 19, 5), (33, 1, 4)] rfl (by decide +kernel)) gt_lw_tbl_wsX110) gt_lw_tbl_wsX10) gt_lw_tbl_wsX00) gt_lw_tbl_wsX30) gt_lw_tbl_wsX40) gt_lw_tbl_wsX60) gt_lw_tbl_wsX70) gt_lw_tbl_wsX80) gt_lw_tbl_wsX100) gt_lw_tbl_wsX20
theorem gL_X11_rest : GoodIn lw_tbl (wsV RL 90 RX11 yX11_rest wsX11_rest) := goodIn_app (goodIn_qs _ [(39, 1, 3), (0, 2, 1)] rfl (by decide +kernel)) ggL_X11_rest
set_option maxRecDepth 20000 in
theorem ggL_X12_rest : GoodIn lw_tbl wsX12_rest := goodIn_ca (goodIn_qs _ [(39, 8, 1), (4, 0, 1), (10, 1, 3), (0, 5, 1), (10, 4, 1), (37, 16, 4), (33, 9, 4), (4, 1, 1), (5, 10, 2), (4, 5, 1), (5, 12, 1), (4, 6, 1), (5, 13, 1), (4, 7, 1), (5, 14, 1), (4, 8, 1), (5, 9, 1), (33, 13, 4), (30, 4, 4), (4, 2, 1), (5, 8, 1), (4, 10, 1), (15, 17, 4), (14, 17, 4), (5, 7, 1), (4, 18, 2), (14, 21, 3), (15, 0, 1), (4, 12, 1), (15, 1, 4), (4, 17, 1), (15, 5, 4), (4, 20, 3), (5, 6, 1), (15, 9, 4), (4, 3, 1), (15, 13, 4), (15, 21, 3), (16, 0, 1), (4, 4, 1), (4, 9, 1), (16, 1, 12), (5, 4, 1), (16, 13, 4), (30, 8, 8), (33, 17, 7), (34, 0, 1), (39, 9, 4)] rfl (by decide +kernel)) gt_lw_tbl_wsX120
theorem gL_X12_rest : GoodIn lw_tbl (wsV RL 93 RX12 yX12_rest wsX12_rest) := goodIn_app (goodIn_qs _ [(39, 5, 3), (0, 5, 1)] rfl (by decide +kernel)) ggL_X12_rest
set_option maxRecDepth 20000 in
theorem ggL_X11_paused : GoodIn lw_tbl wsX11_paused := goodIn_ca (goodIn_ca (goodIn_ca (goodIn_ca (goodIn_ca (goodIn_ca (goodIn_ca (goodIn_ca (goodIn_ca (goodIn_ca (goodIn_qs _ [(39, 16, 1), (36, 12, 3), (0, 2, 1), (36, 15, 5), (0, 18, 1), (0, 16, 1), (36, 20, 1), (10, 15, 1), (32, 8, 3), (0, 15, 1), (32, 11, 1), (1, 22, 1), (2, 0, 1), (2, 6, 3), (1, 21, 1), (1, 23, 1), (2, 1, 5), (32, 12, 4), (10, 16, 4), (7, 8, 1), (31, 16, 4), (31, 0, 4), (29, 18, 1), (20, 17, 1), (18, 22, 1), (20, 18, 1), (36, 21, 3), (30, 20, 4), (29, 8, 4), (2, 13, 1), (29, 12, 1), (11, 14, 4), (11, 1, 3), (2, 14, 1), (11, 4, 4), (1, 13, 1), (11, 8, 1), (3, 9, 1), (3, 6, 1), (3, 8, 1), (3, 7, 1), (11, 9, 4), (3, 5, 1), (3, 4, 1), (11, 18, 5), (7, 20, 1), (11, 23, 1), (12, 0, 3), (8, 8, 1), (12, 3, 2), (8, 17, 1), (12, 5, 2), (7, 17, 1), (12, 7, 12), (7, 23, 1), (12, 19, 5), (13, 0, 2), (7, 14, 1), (13, 2, 3), (8, 2, 1), (13, 5, 16), (8, 5, 1), (13, 21, 3), (14, 0, 5), (29, 13, 5), (18, 21, 1), (18, 23, 1), (29, 19, 5), (33, 1, 4)] rfl (by decide +kernel)) gt_lw_tbl_wsX110) gt_lw_tbl_wsX10) gt_lw_tbl_wsX00) gt_lw_tbl_wsX30) gt_lw_tbl_wsX40) gt_lw_tbl_wsX60) gt_lw_tbl_wsX70) gt_lw_tbl_wsX80) gt_lw_tbl_wsX100) gt_lw_tbl_wsX20
theorem gL_X11_paused : GoodIn lw_tbl (wsV RL 94 RX11 yX11_paused wsX11_paused) := goodIn_app (goodIn_qs _ [(39, 13, 3), (0, 2, 1)] rfl (by decide +kernel)) ggL_X11_paused
set_option maxRecDepth 20000 in
theorem ggL_X12_paused : GoodIn lw_tbl wsX12_paused := goodIn_ca (goodIn_qs _ [(39, 20, 1), (10, 1, 3), (0, 5, 1), (10, 4, 1), (33, 9, 4), (4, 1, 1), (5, 10, 2), (4, 5, 1), (5, 12, 1), (4, 6, 1), (5, 13, 1), (4, 7, 1), (5, 14, 1), (4, 8, 1), (5, 9, 1), (33, 13, 4), (30, 4, 4), (4, 2, 1), (5, 8, 1), (4, 10, 1), (15, 17, 4), (14, 17, 4), (5, 7, 1), (4, 18, 2), (14, 21, 3), (15, 0, 1), (4, 12, 1), (15, 1, 4), (4, 17, 1), (15, 5, 4), (4, 20, 3), (5, 6, 1), (15, 9, 4), (4, 3, 1), (15, 13, 4), (15, 21, 3), (16, 0, 1), (4, 4, 1), (4, 9, 1), (16, 1, 12), (5, 4, 1), (16, 13, 4), (30, 8, 8), (32, 0, 4), (4, 0, 1), (33, 17, 7), (34, 0, 1)] rfl (by decide +kernel)) gt_lw_tbl_wsX120
theorem gL_X12_paused : GoodIn lw_tbl (wsV RL 97 RX12 yX12_paused wsX12_paused) := goodIn_app (goodIn_qs _ [(39, 17, 3), (0, 5, 1)] rfl (by decide +kernel)) ggL_X12_paused
set_option maxRecDepth 20000 in
theorem ggL_X11_see : GoodIn lw_tbl wsX11_see := goodIn_ca (goodIn_ca (goodIn_ca (goodIn_qs _ [(40, 0, 1), (0, 16, 1), (40, 1, 2), (10, 16, 3), (0, 2, 1), (10, 19, 1), (7, 8, 1), (40, 3, 3), (1, 6, 1), (40, 6, 1), (2, 19, 2), (40, 7, 4)] rfl (by decide +kernel)) gt_lw_tbl_wsX110) gt_lw_tbl_wsX10) gt_lw_tbl_wsX50
theorem gL_X11_see : GoodIn lw_tbl (wsV RL 98 RX11 yX11_see wsX11_see) := goodIn_app (goodIn_qs _ [(39, 21, 3), (0, 2, 1)] rfl (by decide +kernel)) ggL_X11_see
set_option maxRecDepth 20000 in
theorem ggL_X12_see : GoodIn lw_tbl wsX12_see := goodIn_ca (goodIn_qs _ [(40, 14, 1), (5, 18, 4), (14, 9, 3), (0, 5, 1), (14, 12, 1), (4, 0, 1), (10, 1, 4)] rfl (by decide +kernel)) gt_lw_tbl_wsX120
theorem gL_X12_see : GoodIn lw_tbl (wsV RL 101 RX12 yX12_see wsX12_see) := goodIn_app (goodIn_qs _ [(40, 11, 3), (0, 5, 1)] rfl (by decide +kernel)) ggL_X12_see
set_option maxRecDepth 20000 in
theorem ggL_X11_who : GoodIn lw_tbl wsX11_who := goodIn_ca (goodIn_ca (goodIn_ca (goodIn_ca (goodIn_ca (goodIn_ca (goodIn_ca (goodIn_ca (goodIn_ca (goodIn_ca (goodIn_ca (goodIn_qs _ [(40, 18, 1), (0, 16, 1), (7, 8, 1), (0, 18, 1), (10, 15, 1), (32, 8, 3), (0, 15, 1), (32, 11, 1), (1, 22, 1), (2, 0, 1), (2, 6, 3), (1, 21, 1), (1, 23, 1), (2, 1, 5), (32, 12, 4), (40, 19, 3), (0, 2, 1), (40, 22, 2), (41, 0, 3), (40, 1, 1), (41, 3, 1), (40, 2, 1), (10, 12, 1), (29, 8, 4), (2, 13, 1), (29, 12, 1), (11, 14, 4), (11, 1, 3), (2, 14, 1), (11, 4, 4), (1, 13, 1), (11, 8, 1), (3, 9, 1), (3, 6, 1), (3, 8, 1), (3, 7, 1), (11, 9, 4), (3, 5, 1), (3, 4, 1), (11, 18, 5), (7, 20, 1), (11, 23, 1), (12, 0, 3), (8, 8, 1), (12, 3, 2), (8, 17, 1), (12, 5, 2), (7, 17, 1), (12, 7, 12), (7, 23, 1), (12, 19, 5), (13, 0, 2), (7, 14, 1), (13, 2, 3), (8, 2, 1), (13, 5, 16), (8, 5, 1), (13, 21, 3), (14, 0, 5), (29, 13, 5), (18, 21, 3), (29, 18, 1), (20, 17, 2), (29, 19, 5)] rfl (by decide +kernel)) gt_lw_tbl_wsX110) gt_lw_tbl_wsX10) gt_lw_tbl_wsX50) gt_lw_tbl_wsX00) gt_lw_tbl_wsX30) gt_lw_tbl_wsX40) gt_lw_tbl_wsX60) gt_lw_tbl_wsX70) gt_lw_tbl_wsX80) gt_lw_tbl_wsX100) gt_lw_tbl_wsX20
theorem gL_X11_who : GoodIn lw_tbl (wsV RL 102 RX11 yX11_who wsX11_who) := goodIn_app (goodIn_qs _ [(40, 15, 3), (0, 2, 1)] rfl (by decide +kernel)) ggL_X11_who
set_option maxRecDepth 20000 in
theorem ggL_X12_who : GoodIn lw_tbl wsX12_who := goodIn_ca (goodIn_qs _ [(41, 7, 1), (4, 0, 1), (5, 18, 1), (41, 8, 3), (0, 5, 1), (41, 11, 1), (4, 8, 1), (5, 20, 1), (4, 5, 1), (5, 19, 1), (5, 21, 1), (33, 9, 4), (4, 1, 1), (5, 10, 3), (4, 6, 1), (5, 13, 1), (4, 7, 1), (5, 14, 1), (5, 9, 1), (33, 13, 4), (30, 4, 4), (4, 2, 1), (5, 8, 1), (4, 10, 1), (15, 17, 4), (14, 17, 4), (5, 7, 1), (4, 18, 2), (14, 21, 3), (15, 0, 1), (4, 12, 1), (15, 1, 4), (4, 17, 1), (15, 5, 4), (4, 20, 3), (5, 6, 1), (15, 9, 4), (4, 3, 1), (15, 13, 4), (15, 21, 3), (16, 0, 1), (4, 4, 1), (4, 9, 1), (16, 1, 12), (5, 4, 1), (16, 13, 4), (30, 8, 8), (33, 21, 3), (34, 0, 1)] rfl (by decide +kernel)) gt_lw_tbl_wsX120
theorem gL_X12_who : GoodIn lw_tbl (wsV RL 105 RX12 yX12_who wsX12_who) := goodIn_app (goodIn_qs _ [(41, 4, 3), (0, 5, 1)] rfl (by decide +kernel)) ggL_X12_who
set_option maxRecDepth 20000 in
theorem ggL_X11_odds : GoodIn lw_tbl wsX11_odds := goodIn_ca (goodIn_ca (goodIn_ca (goodIn_ca (goodIn_ca (goodIn_ca (goodIn_ca (goodIn_ca (goodIn_ca (goodIn_ca (goodIn_qs _ [(41, 15, 2), (0, 16, 1), (7, 8, 1), (0, 18, 1), (10, 15, 4), (0, 2, 1), (10, 19, 1), (32, 8, 3), (0, 15, 1), (32, 11, 1), (1, 22, 1), (2, 0, 1), (2, 6, 3), (1, 21, 1), (1, 23, 1), (2, 1, 5), (32, 12, 8), (29, 8, 4), (2, 13, 1), (29, 12, 1), (11, 14, 4), (11, 1, 3), (2, 14, 1), (11, 4, 4), (1, 13, 1), (11, 8, 1), (3, 9, 1), (3, 6, 1), (3, 8, 1), (3, 7, 1), (11, 9, 4), (3, 5, 1), (3, 4, 1), (11, 18, 5), (7, 20, 1), (11, 23, 1), (12, 0, 3), (8, 8, 1), (12, 3, 2), (8, 17, 1), (12, 5, 2), (7, 17, 1), (12, 7, 12), (7, 23, 1), (12, 19, 5), (13, 0, 2), (7, 14, 1), (13, 2, 3), (8, 2, 1), (13, 5, 16), (8, 5, 1), (13, 21, 3), (14, 0, 5), (29, 13, 5), (18, 21, 3), (29, 18, 1), (20, 17, 2), (29, 19, 5), (41, 17, 3)] rfl (by decide +kernel)) gt_lw_tbl_wsX110) gt_lw_tbl_wsX10) gt_lw_tbl_wsX00) gt_lw_tbl_wsX30) gt_lw_tbl_wsX40) gt_lw_tbl_wsX60) gt_lw_tbl_wsX70) gt_lw_tbl_wsX80) gt_lw_tbl_wsX100) gt_lw_tbl_wsX20
theorem gL_X11_odds : GoodIn lw_tbl (wsV RL 106 RX11 yX11_odds wsX11_odds) := goodIn_app (goodIn_qs _ [(41, 12, 3), (0, 2, 1)] rfl (by decide +kernel)) ggL_X11_odds
set_option maxRecDepth 20000 in
theorem ggL_X12_odds : GoodIn lw_tbl wsX12_odds := goodIn_ca (goodIn_qs _ [(41, 23, 1), (42, 0, 1), (4, 0, 1), (4, 8, 1), (5, 9, 1), (14, 9, 3), (0, 5, 1), (14, 12, 1), (10, 1, 4), (33, 9, 4), (4, 1, 1), (5, 10, 2), (4, 5, 1), (5, 12, 1), (4, 6, 1), (5, 13, 1), (4, 7, 1), (5, 14, 1), (33, 13, 4), (30, 4, 4), (4, 2, 1), (5, 8, 1), (4, 10, 1), (15, 17, 4), (14, 17, 4), (5, 7, 1), (4, 18, 2), (14, 21, 3), (15, 0, 1), (4, 12, 1), (15, 1, 4), (4, 17, 1), (15, 5, 4), (4, 20, 3), (5, 6, 1), (15, 9, 4), (4, 3, 1), (15, 13, 4), (15, 21, 3), (16, 0, 1), (4, 4, 1), (4, 9, 1), (16, 1, 12), (5, 4, 1), (16, 13, 4), (30, 8, 8), (33, 21, 3), (34, 0, 1), (42, 1, 8)] rfl (by decide +kernel)) gt_lw_tbl_wsX120
theorem gL_X12_odds : GoodIn lw_tbl (wsV RL 110 RX12 yX12_odds wsX12_odds) := goodIn_app (goodIn_qs _ [(41, 20, 3), (0, 5, 1)] rfl (by decide +kernel)) ggL_X12_odds
set_option maxRecDepth 20000 in
theorem ggL_X11_mean : GoodIn lw_tbl wsX11_mean := goodIn_ca (goodIn_ca (goodIn_ca (goodIn_ca (goodIn_ca (goodIn_ca (goodIn_ca (goodIn_ca (goodIn_ca (goodIn_ca (goodIn_qs _ [(42, 12, 1), (0, 16, 1), (7, 8, 1), (41, 16, 1), (0, 18, 1), (32, 8, 3), (0, 15, 1), (32, 11, 1), (1, 22, 1), (2, 0, 1), (2, 6, 3), (1, 21, 1), (1, 23, 1), (2, 1, 5), (32, 12, 4), (32, 20, 4), (33, 0, 1), (29, 9, 3), (2, 13, 1), (29, 12, 1), (11, 14, 4), (11, 1, 3), (2, 14, 1), (11, 4, 4), (1, 13, 1), (11, 8, 1), (3, 9, 1), (3, 6, 1), (3, 8, 1), (3, 7, 1), (11, 9, 4), (3, 5, 1), (3, 4, 1), (11, 18, 5), (7, 20, 1), (11, 23, 1), (12, 0, 3), (8, 8, 1), (12, 3, 2), (8, 17, 1), (12, 5, 2), (7, 17, 1), (12, 7, 12), (7, 23, 1), (12, 19, 5), (13, 0, 2), (7, 14, 1), (13, 2, 3), (8, 2, 1), (13, 5, 16), (8, 5, 1), (13, 21, 3), (14, 0, 5), (29, 13, 5), (18, 21, 3), (29, 18, 1), (20, 17, 2), (29, 19, 5), (33, 1, 4), (41, 17, 2), (0, 2, 1), (41, 19, 1)] rfl (by decide +kernel)) gt_lw_tbl_wsX110) gt_lw_tbl_wsX10) gt_lw_tbl_wsX00) gt_lw_tbl_wsX30) gt_lw_tbl_wsX40) gt_lw_tbl_wsX60) gt_lw_tbl_wsX70) gt_lw_tbl_wsX80) gt_lw_tbl_wsX100) gt_lw_tbl_wsX20
theorem gL_X11_mean : GoodIn lw_tbl (wsV RL 111 RX11 yX11_mean wsX11_mean) := goodIn_app (goodIn_qs _ [(42, 9, 3), (0, 2, 1)] rfl (by decide +kernel)) ggL_X11_mean
set_option maxRecDepth 20000 in
theorem ggL_X12_mean : GoodIn lw_tbl wsX12_mean := goodIn_ca (goodIn_qs _ [(42, 16, 1), (4, 0, 1), (42, 0, 1), (10, 1, 3), (0, 5, 1), (10, 4, 1), (37, 16, 4), (33, 9, 4), (4, 1, 1), (5, 10, 2), (4, 5, 1), (5, 12, 1), (4, 6, 1), (5, 13, 1), (4, 7, 1), (5, 14, 1), (4, 8, 1), (5, 9, 1), (33, 13, 4), (30, 4, 4), (4, 2, 1), (5, 8, 1), (4, 10, 1), (15, 17, 4), (14, 17, 4), (5, 7, 1), (4, 18, 2), (14, 21, 3), (15, 0, 1), (4, 12, 1), (15, 1, 4), (4, 17, 1), (15, 5, 4), (4, 20, 3), (5, 6, 1), (15, 9, 4), (4, 3, 1), (15, 13, 4), (15, 21, 3), (16, 0, 1), (4, 4, 1), (4, 9, 1), (16, 1, 12), (5, 4, 1), (16, 13, 4), (30, 8, 8), (33, 17, 7), (34, 0, 1), (42, 1, 8)] rfl (by decide +kernel)) gt_lw_tbl_wsX120
theorem gL_X12_mean : GoodIn lw_tbl (wsV RL 115 RX12 yX12_mean wsX12_mean) := goodIn_app (goodIn_qs _ [(42, 13, 3), (0, 5, 1)] rfl (by decide +kernel)) ggL_X12_mean
set_option maxRecDepth 20000 in
theorem ggL_X11_plan : GoodIn lw_tbl wsX11_plan := goodIn_ca (goodIn_ca (goodIn_ca (goodIn_qs _ [(42, 20, 1), (0, 16, 1), (42, 21, 1), (40, 2, 4), (1, 6, 1), (40, 6, 1), (2, 19, 2), (40, 7, 4)] rfl (by decide +kernel)) gt_lw_tbl_wsX110) gt_lw_tbl_wsX10) gt_lw_tbl_wsX50
theorem gL_X11_plan : GoodIn lw_tbl (wsV RL 116 RX11 yX11_plan wsX11_plan) := goodIn_app (goodIn_qs _ [(42, 17, 3), (0, 2, 1)] rfl (by decide +kernel)) ggL_X11_plan
set_option maxRecDepth 20000 in
theorem ggL_X12_plan : GoodIn lw_tbl wsX12_plan := goodIn_ca (goodIn_qs _ [(43, 1, 1), (5, 22, 1), (6, 0, 1), (10, 1, 3), (0, 5, 1), (10, 4, 1)] rfl (by decide +kernel)) gt_lw_tbl_wsX120
theorem gL_X12_plan : GoodIn lw_tbl (wsV RL 119 RX12 yX12_plan wsX12_plan) := goodIn_app (goodIn_qs _ [(42, 22, 2), (43, 0, 1), (0, 5, 1)] rfl (by decide +kernel)) ggL_X12_plan
set_option maxRecDepth 20000 in
theorem ggL_X11_planned : GoodIn lw_tbl wsX11_planned := goodIn_ca (goodIn_ca (goodIn_ca (goodIn_ca (goodIn_ca (goodIn_ca (goodIn_ca (goodIn_ca (goodIn_ca (goodIn_ca (goodIn_ca (goodIn_qs _ [(43, 5, 1), (0, 18, 1), (0, 16, 1), (42, 21, 1), (40, 2, 1), (41, 3, 1), (32, 8, 3), (0, 15, 1), (32, 11, 1), (1, 22, 1), (2, 0, 1), (2, 6, 3), (1, 21, 1), (1, 23, 1), (2, 1, 5), (32, 12, 4), (29, 8, 4), (2, 13, 1), (29, 12, 1), (11, 14, 4), (11, 1, 3), (2, 14, 1), (11, 4, 4), (1, 13, 1), (11, 8, 1), (3, 9, 1), (3, 6, 1), (3, 8, 1), (3, 7, 1), (11, 9, 4), (3, 5, 1), (3, 4, 1), (11, 18, 5), (7, 20, 1), (11, 23, 1), (12, 0, 3), (8, 8, 1), (12, 3, 2), (8, 17, 1), (12, 5, 2), (7, 17, 1), (12, 7, 12), (7, 23, 1), (12, 19, 5), (13, 0, 2), (7, 14, 1), (13, 2, 3), (8, 2, 1), (13, 5, 16), (8, 5, 1), (13, 21, 3), (14, 0, 5), (29, 13, 5), (18, 21, 3), (29, 18, 1), (20, 17, 2), (29, 19, 5), (30, 20, 4), (31, 0, 4), (31, 16, 4), (33, 1, 4)] rfl (by decide +kernel)) gt_lw_tbl_wsX110) gt_lw_tbl_wsX10) gt_lw_tbl_wsX50) gt_lw_tbl_wsX00) gt_lw_tbl_wsX30) gt_lw_tbl_wsX40) gt_lw_tbl_wsX60) gt_lw_tbl_wsX70) gt_lw_tbl_wsX80) gt_lw_tbl_wsX100) gt_lw_tbl_wsX20
theorem gL_X11_planned : GoodIn lw_tbl (wsV RL 120 RX11 yX11_planned wsX11_planned) := goodIn_app (goodIn_qs _ [(43, 2, 3), (0, 2, 1)] rfl (by decide +kernel)) ggL_X11_planned
set_option maxRecDepth 20000 in
theorem ggL_X12_planned : GoodIn lw_tbl wsX12_planned := goodIn_ca (goodIn_qs _ [(43, 9, 1), (5, 22, 1), (6, 0, 1), (33, 9, 3), (0, 5, 1), (33, 12, 1), (4, 1, 1), (5, 10, 2), (4, 5, 1), (5, 12, 1), (4, 6, 1), (5, 13, 1), (4, 7, 1), (5, 14, 1), (4, 8, 1), (5, 9, 1), (33, 13, 4), (30, 4, 4), (4, 2, 1), (5, 8, 1), (4, 10, 1), (15, 17, 4), (14, 17, 4), (5, 7, 1), (4, 18, 2), (14, 21, 3), (15, 0, 1), (4, 12, 1), (15, 1, 4), (4, 17, 1), (15, 5, 4), (4, 20, 3), (5, 6, 1), (15, 9, 4), (4, 3, 1), (15, 13, 4), (15, 21, 3), (16, 0, 1), (4, 4, 1), (4, 9, 1), (16, 1, 12), (5, 4, 1), (16, 13, 4), (30, 8, 8), (31, 8, 4), (4, 0, 1), (32, 0, 4), (33, 17, 7), (34, 0, 1)] rfl (by decide +kernel)) gt_lw_tbl_wsX120
theorem gL_X12_planned : GoodIn lw_tbl (wsV RL 123 RX12 yX12_planned wsX12_planned) := goodIn_app (goodIn_qs _ [(43, 6, 3), (0, 5, 1)] rfl (by decide +kernel)) ggL_X12_planned
set_option maxRecDepth 20000 in
theorem ggL_X11_book : GoodIn lw_tbl wsX11_book := goodIn_ca (goodIn_ca (goodIn_ca (goodIn_qs _ [(43, 13, 1), (0, 16, 1), (43, 14, 1), (40, 2, 1), (10, 16, 3), (0, 2, 1), (10, 19, 1), (7, 8, 1), (40, 3, 3), (1, 6, 1), (40, 6, 1), (2, 19, 2), (40, 7, 4)] rfl (by decide +kernel)) gt_lw_tbl_wsX110) gt_lw_tbl_wsX10) gt_lw_tbl_wsX50
theorem gL_X11_book : GoodIn lw_tbl (wsV RL 124 RX11 yX11_book wsX11_book) := goodIn_app (goodIn_qs _ [(43, 10, 3), (0, 2, 1)] rfl (by decide +kernel)) ggL_X11_book
set_option maxRecDepth 20000 in
theorem ggL_X12_book : GoodIn lw_tbl wsX12_book := goodIn_ca (goodIn_qs _ [(43, 18, 1), (5, 23, 1), (6, 1, 1), (14, 9, 3), (0, 5, 1), (14, 12, 1), (4, 0, 1), (10, 1, 4)] rfl (by decide +kernel)) gt_lw_tbl_wsX120
theorem gL_X12_book : GoodIn lw_tbl (wsV RL 127 RX12 yX12_book wsX12_book) := goodIn_app (goodIn_qs _ [(43, 15, 3), (0, 5, 1)] rfl (by decide +kernel)) ggL_X12_book
set_option maxRecDepth 20000 in
theorem ggL_X11_looked : GoodIn lw_tbl wsX11_looked := goodIn_ca (goodIn_ca (goodIn_ca (goodIn_ca (goodIn_ca (goodIn_ca (goodIn_ca (goodIn_ca (goodIn_ca (goodIn_ca (goodIn_ca (goodIn_qs _ [(43, 22, 1), (0, 18, 1), (0, 16, 1), (43, 14, 1), (40, 2, 1), (41, 3, 1), (32, 8, 3), (0, 15, 1), (32, 11, 1), (1, 22, 1), (2, 0, 1), (2, 6, 3), (1, 21, 1), (1, 23, 1), (2, 1, 5), (32, 12, 4), (29, 8, 4), (2, 13, 1), (29, 12, 1), (11, 14, 4), (11, 1, 3), (2, 14, 1), (11, 4, 4), (1, 13, 1), (11, 8, 1), (3, 9, 1), (3, 6, 1), (3, 8, 1), (3, 7, 1), (11, 9, 4), (3, 5, 1), (3, 4, 1), (11, 18, 5), (7, 20, 1), (11, 23, 1), (12, 0, 3), (8, 8, 1), (12, 3, 2), (8, 17, 1), (12, 5, 2), (7, 17, 1), (12, 7, 12), (7, 23, 1), (12, 19, 5), (13, 0, 2), (7, 14, 1), (13, 2, 3), (8, 2, 1), (13, 5, 16), (8, 5, 1), (13, 21, 3), (14, 0, 5), (29, 13, 5), (18, 21, 3), (29, 18, 1), (20, 17, 2), (29, 19, 5)] rfl (by decide +kernel)) gt_lw_tbl_wsX110) gt_lw_tbl_wsX10) gt_lw_tbl_wsX50) gt_lw_tbl_wsX00) gt_lw_tbl_wsX30) gt_lw_tbl_wsX40) gt_lw_tbl_wsX60) gt_lw_tbl_wsX70) gt_lw_tbl_wsX80) gt_lw_tbl_wsX100) gt_lw_tbl_wsX20
theorem gL_X11_looked : GoodIn lw_tbl (wsV RL 128 RX11 yX11_looked wsX11_looked) := goodIn_app (goodIn_qs _ [(43, 19, 3), (0, 2, 1)] rfl (by decide +kernel)) ggL_X11_looked
set_option maxRecDepth 20000 in
theorem ggL_X12_looked : GoodIn lw_tbl wsX12_looked := goodIn_ca (goodIn_qs _ [(44, 2, 1), (5, 23, 1), (6, 1, 1), (33, 9, 3), (0, 5, 1), (33, 12, 1), (4, 1, 1), (5, 10, 2), (4, 5, 1), (5, 12, 1), (4, 6, 1), (5, 13, 1), (4, 7, 1), (5, 14, 1), (4, 8, 1), (5, 9, 1), (30, 4, 4), (4, 2, 1), (5, 8, 1), (4, 10, 1), (15, 17, 4), (14, 17, 4), (5, 7, 1), (4, 18, 2), (14, 21, 3), (15, 0, 1), (4, 12, 1), (15, 1, 4), (4, 17, 1), (15, 5, 4), (4, 20, 3), (5, 6, 1), (15, 9, 4), (4, 3, 1), (15, 13, 4), (15, 21, 3), (16, 0, 1), (4, 4, 1), (4, 9, 1), (16, 1, 12), (5, 4, 1), (16, 13, 4), (30, 8, 8), (33, 21, 3), (34, 0, 1), (36, 0, 4)] rfl (by decide +kernel)) gt_lw_tbl_wsX120
theorem gL_X12_looked : GoodIn lw_tbl (wsV RL 131 RX12 yX12_looked wsX12_looked) := goodIn_app (goodIn_qs _ [(43, 23, 1), (44, 0, 2), (0, 5, 1)] rfl (by decide +kernel)) ggL_X12_looked
set_option maxRecDepth 20000 in
theorem ggL_X11_judge : GoodIn lw_tbl wsX11_judge := goodIn_ca (goodIn_ca (goodIn_ca (goodIn_qs _ [(44, 6, 1), (1, 3, 1), (44, 7, 1), (0, 16, 1), (7, 8, 1), (44, 8, 1), (10, 12, 1), (44, 9, 2), (0, 2, 1), (44, 11, 4), (1, 16, 1), (44, 15, 1), (3, 18, 1), (44, 16, 4), (3, 19, 1)] rfl (by decide +kernel)) gt_lw_tbl_wsX110) gt_lw_tbl_wsX90) gt_lw_tbl_wsX10
theorem gL_X11_judge : GoodIn lw_tbl (wsV RL 132 RX11 yX11_judge wsX11_judge) := goodIn_app (goodIn_qs _ [(44, 3, 3), (0, 2, 1)] rfl (by decide +kernel)) ggL_X11_judge
set_option maxRecDepth 20000 in
theorem ggL_X12_judge : GoodIn lw_tbl wsX12_judge := goodIn_ca (goodIn_qs _ [(44, 23, 1), (7, 0, 1), (4, 0, 1), (7, 1, 2), (4, 5, 1), (45, 0, 3), (0, 5, 1), (45, 3, 1), (10, 1, 4)] rfl (by decide +kernel)) gt_lw_tbl_wsX120
theorem gL_X12_judge : GoodIn lw_tbl (wsV RL 135 RX12 yX12_judge wsX12_judge) := goodIn_app (goodIn_qs _ [(44, 20, 3), (0, 5, 1)] rfl (by decide +kernel)) ggL_X12_judge
set_option maxRecDepth 20000 in
theorem ggL_X11_image : GoodIn lw_tbl wsX11_image := goodIn_ca (goodIn_ca (goodIn_ca (goodIn_qs _ [(45, 7, 1), (0, 17, 1), (0, 16, 1), (0, 19, 1), (7, 8, 1), (32, 8, 3), (0, 15, 1), (32, 11, 1), (1, 22, 1), (2, 0, 1), (2, 6, 3), (1, 21, 1), (1, 23, 1), (2, 1, 5), (32, 12, 4), (45, 8, 4), (2, 10, 3), (45, 12, 3), (1, 6, 1), (45, 15, 1), (2, 19, 2), (45, 16, 1), (18, 21, 3), (45, 17, 1)] rfl (by decide +kernel)) gt_lw_tbl_wsX110) gt_lw_tbl_wsX10) gt_lw_tbl_wsX50
theorem gL_X11_image : GoodIn lw_tbl (wsV RL 136 RX11 yX11_image wsX11_image) := goodIn_app (goodIn_qs _ [(45, 4, 3), (0, 2, 1)] rfl (by decide +kernel)) ggL_X11_image
set_option maxRecDepth 20000 in
theorem ggL_X12_image : GoodIn lw_tbl wsX12_image := goodIn_ca (goodIn_qs _ [(45, 21, 1), (6, 2, 1), (4, 12, 1), (6, 3, 1), (4, 0, 1), (6, 4, 1), (4, 1, 1), (6, 5, 1), (5, 18, 1), (6, 6, 1), (5, 22, 1), (6, 7, 1), (5, 23, 1), (6, 8, 2), (4, 3, 1), (6, 10, 1), (4, 4, 1), (6, 11, 1), (4, 5, 1), (6, 12, 1), (4, 6, 1), (6, 13, 1), (4, 7, 1), (6, 14, 1), (4, 8, 1), (6, 15, 1), (4, 10, 1), (6, 17, 1), (5, 19, 1), (6, 18, 1), (5, 20, 1), (6, 19, 1), (5, 21, 1), (6, 16, 1), (4, 9, 1), (6, 20, 1), (6, 0, 1), (6, 21, 1), (6, 1, 1)] rfl (by decide +kernel)) gt_lw_tbl_wsX120
theorem gL_X12_image : GoodIn lw_tbl (wsV RL 139 RX12 yX12_image wsX12_image) := goodIn_app (goodIn_qs _ [(45, 18, 3), (0, 5, 1)] rfl (by decide +kernel)) ggL_X12_image
set_option maxRecDepth 20000 in
theorem ggL_X11_undo : GoodIn lw_tbl wsX11_undo := goodIn_ca (goodIn_ca (goodIn_ca (goodIn_qs _ [(46, 1, 1), (0, 19, 1), (0, 16, 2), (7, 8, 1), (32, 8, 3), (0, 15, 1), (32, 11, 1), (1, 22, 1), (2, 0, 1), (2, 6, 3), (1, 21, 1), (1, 23, 1), (2, 1, 5), (32, 12, 4), (45, 8, 4), (2, 10, 3), (45, 12, 3), (1, 6, 1), (45, 15, 1), (2, 19, 2), (45, 16, 1), (18, 21, 3), (45, 17, 1)] rfl (by decide +kernel)) gt_lw_tbl_wsX110) gt_lw_tbl_wsX10) gt_lw_tbl_wsX50
theorem gL_X11_undo : GoodIn lw_tbl (wsV RL 140 RX11 yX11_undo wsX11_undo) := goodIn_app (goodIn_qs _ [(45, 22, 2), (46, 0, 1), (0, 2, 1)] rfl (by decide +kernel)) ggL_X11_undo
set_option maxRecDepth 20000 in
theorem ggL_X12_undo : GoodIn lw_tbl wsX12_undo := goodIn_ca (goodIn_qs _ [(46, 5, 1), (6, 2, 2), (4, 12, 1), (6, 4, 1), (4, 0, 1), (4, 2, 1), (6, 5, 1), (4, 1, 1), (6, 6, 1), (5, 18, 1), (6, 7, 1), (5, 22, 1), (6, 8, 1), (5, 23, 1), (4, 3, 1), (6, 9, 1), (4, 4, 1), (6, 10, 1), (4, 5, 1), (6, 11, 1), (4, 6, 1), (6, 12, 1), (4, 7, 1), (6, 13, 1), (4, 8, 1), (6, 14, 1), (4, 10, 1), (6, 15, 1), (5, 19, 1), (6, 17, 1), (5, 20, 1), (6, 18, 1), (5, 21, 1), (6, 19, 1), (4, 9, 1), (6, 16, 1), (6, 0, 1), (6, 20, 1), (6, 1, 1), (6, 21, 1)] rfl (by decide +kernel)) gt_lw_tbl_wsX120
theorem gL_X12_undo : GoodIn lw_tbl (wsV RL 143 RX12 yX12_undo wsX12_undo) := goodIn_app (goodIn_qs _ [(46, 2, 3), (0, 5, 1)] rfl (by decide +kernel)) ggL_X12_undo
set_option maxRecDepth 20000 in
theorem ggL_X11_act : GoodIn lw_tbl wsX11_act := goodIn_ca (goodIn_ca (goodIn_ca (goodIn_ca (goodIn_ca (goodIn_ca (goodIn_ca (goodIn_ca (goodIn_ca (goodIn_ca (goodIn_qs _ [(46, 9, 1), (1, 7, 1), (40, 2, 1), (0, 16, 1), (10, 9, 1), (10, 16, 3), (0, 2, 1), (10, 19, 1), (7, 8, 1), (46, 10, 4), (8, 8, 1), (46, 14, 1), (8, 17, 1), (46, 15, 1), (40, 8, 2), (1, 6, 1), (40, 10, 1), (2, 19, 2), (46, 16, 3), (7, 17, 1), (46, 19, 3), (12, 14, 1), (46, 22, 2), (47, 0, 2), (7, 23, 1), (47, 2, 6), (8, 5, 1), (47, 8, 9), (8, 18, 1), (47, 17, 7), (48, 0, 4), (13, 0, 1), (48, 4, 1), (7, 14, 1), (48, 5, 14), (7, 20, 1), (48, 19, 3), (12, 1, 1), (48, 22, 2), (49, 0, 12), (8, 2, 1), (49, 12, 6)] rfl (by decide +kernel)) gt_lw_tbl_wsX110) gt_lw_tbl_wsX50) gt_lw_tbl_wsX10) gt_lw_tbl_wsX00) gt_lw_tbl_wsX30) gt_lw_tbl_wsX40) gt_lw_tbl_wsX60) gt_lw_tbl_wsX70) gt_lw_tbl_wsX80) gt_lw_tbl_wsX100
set_option maxRecDepth 20000 in
theorem ggL_X12_act : GoodIn lw_tbl wsX12_act := goodIn_ca (goodIn_qs _ [(49, 21, 1), (6, 22, 1), (14, 9, 3), (0, 5, 1), (14, 12, 1), (4, 0, 1), (10, 1, 4), (49, 22, 2), (50, 0, 2), (4, 3, 2), (50, 2, 4), (6, 23, 1), (50, 6, 18), (51, 0, 6)] rfl (by decide +kernel)) gt_lw_tbl_wsX120
theorem gL_X12_act : GoodIn lw_tbl (wsV RL 147 RX12 yX12_act wsX12_act) := goodIn_app (goodIn_qs _ [(49, 18, 3), (0, 5, 1)] rfl (by decide +kernel)) ggL_X12_act
set_option maxRecDepth 20000 in
theorem ggL_X11_trace : GoodIn lw_tbl wsX11_trace := goodIn_ca (goodIn_ca (goodIn_qs _ [(51, 9, 1), (1, 7, 1), (41, 3, 1), (51, 10, 3), (1, 6, 1), (51, 13, 1), (2, 19, 2)] rfl (by decide +kernel)) gt_lw_tbl_wsX110) gt_lw_tbl_wsX50
theorem gL_X11_trace : GoodIn lw_tbl (wsV RL 148 RX11 yX11_trace wsX11_trace) := goodIn_app (goodIn_qs _ [(51, 6, 3), (0, 2, 1)] rfl (by decide +kernel)) ggL_X11_trace
set_option maxRecDepth 20000 in
theorem ggL_X12_trace : GoodIn lw_tbl wsX12_trace := goodIn_ca (goodIn_qs _ [(51, 17, 1), (6, 22, 2), (10, 1, 3), (0, 5, 1), (10, 4, 1)] rfl (by decide +kernel)) gt_lw_tbl_wsX120
theorem gL_X12_trace : GoodIn lw_tbl (wsV RL 151 RX12 yX12_trace wsX12_trace) := goodIn_app (goodIn_qs _ [(51, 14, 3), (0, 5, 1)] rfl (by decide +kernel)) ggL_X12_trace
set_option maxRecDepth 20000 in
theorem ggL_X11_taken : GoodIn lw_tbl wsX11_taken := goodIn_ca (goodIn_ca (goodIn_ca (goodIn_ca (goodIn_ca (goodIn_ca (goodIn_ca (goodIn_ca (goodIn_ca (goodIn_qs _ [(51, 21, 1), (0, 16, 1), (10, 9, 2), (10, 16, 3), (0, 2, 1), (10, 19, 1), (7, 8, 1), (51, 22, 2), (52, 0, 6), (17, 9, 1)] rfl (by decide +kernel)) gt_lw_tbl_wsX110) gt_lw_tbl_wsX10) gt_lw_tbl_wsX00) gt_lw_tbl_wsX30) gt_lw_tbl_wsX40) gt_lw_tbl_wsX60) gt_lw_tbl_wsX70) gt_lw_tbl_wsX80) gt_lw_tbl_wsX100
theorem gL_X11_taken : GoodIn lw_tbl (wsV RL 152 RX11 yX11_taken wsX11_taken) := goodIn_app (goodIn_qs _ [(51, 18, 3), (0, 2, 1)] rfl (by decide +kernel)) ggL_X11_taken
set_option maxRecDepth 20000 in
theorem ggL_X12_taken : GoodIn lw_tbl wsX12_taken := goodIn_ca (goodIn_qs _ [(52, 9, 1), (4, 3, 1), (10, 1, 3), (0, 5, 1), (10, 4, 1), (14, 9, 4), (4, 0, 1)] rfl (by decide +kernel)) gt_lw_tbl_wsX120
theorem gL_X12_taken : GoodIn lw_tbl (wsV RL 155 RX12 yX12_taken wsX12_taken) := goodIn_app (goodIn_qs _ [(52, 6, 3), (0, 5, 1)] rfl (by decide +kernel)) ggL_X12_taken
set_option maxRecDepth 20000 in
theorem ggL_X11_count : GoodIn lw_tbl wsX11_count := goodIn_ca (goodIn_ca (goodIn_ca (goodIn_qs _ [(52, 13, 1), (0, 16, 1), (7, 8, 1), (0, 22, 1), (40, 1, 2), (42, 21, 1), (43, 14, 1), (1, 1, 1), (1, 7, 1)] rfl (by decide +kernel)) gt_lw_tbl_wsX110) gt_lw_tbl_wsX10) gt_lw_tbl_wsX50
theorem gL_X11_count : GoodIn lw_tbl (wsV RL 156 RX11 yX11_count wsX11_count) := goodIn_app (goodIn_qs _ [(52, 10, 3), (0, 2, 1)] rfl (by decide +kernel)) ggL_X11_count
set_option maxRecDepth 20000 in
theorem ggL_X12_count : GoodIn lw_tbl wsX12_count := goodIn_ca (goodIn_qs _ [(52, 17, 1), (4, 0, 1), (4, 11, 1), (5, 18, 1), (5, 22, 2), (4, 13, 1), (6, 22, 1)] rfl (by decide +kernel)) gt_lw_tbl_wsX120
theorem gL_X12_count : GoodIn lw_tbl (wsV RL 159 RX12 yX12_count wsX12_count) := goodIn_app (goodIn_qs _ [(52, 14, 3), (0, 5, 1)] rfl (by decide +kernel)) ggL_X12_count
set_option maxRecDepth 20000 in
theorem ggL_X11_tape : GoodIn lw_tbl wsX11_tape := goodIn_ca (goodIn_ca (goodIn_qs _ [(52, 21, 1), (1, 3, 1), (44, 9, 2), (0, 2, 1), (44, 11, 1), (52, 22, 2), (53, 0, 1), (1, 16, 1), (53, 1, 1), (3, 18, 2), (3, 17, 1), (53, 2, 4)] rfl (by decide +kernel)) gt_lw_tbl_wsX110) gt_lw_tbl_wsX90
theorem gL_X11_tape : GoodIn lw_tbl (wsV RL 160 RX11 yX11_tape wsX11_tape) := goodIn_app (goodIn_qs _ [(52, 18, 3), (0, 2, 1)] rfl (by decide +kernel)) ggL_X11_tape
set_option maxRecDepth 20000 in
theorem ggL_X12_tape : GoodIn lw_tbl wsX12_tape := goodIn_ca (goodIn_qs _ [(53, 9, 1), (7, 0, 3), (45, 0, 3), (0, 5, 1), (45, 3, 1), (10, 1, 4)] rfl (by decide +kernel)) gt_lw_tbl_wsX120
theorem gL_X12_tape : GoodIn lw_tbl (wsV RL 163 RX12 yX12_tape wsX12_tape) := goodIn_app (goodIn_qs _ [(53, 6, 3), (0, 5, 1)] rfl (by decide +kernel)) ggL_X12_tape
set_option maxRecDepth 20000 in
theorem ggL_X11_item : GoodIn lw_tbl wsX11_item := goodIn_ca (goodIn_ca (goodIn_qs _ [(53, 13, 1), (1, 3, 1), (44, 8, 3), (0, 2, 1), (44, 11, 4), (1, 16, 1), (44, 15, 1), (3, 18, 1), (44, 16, 4), (3, 19, 1), (53, 14, 4)] rfl (by decide +kernel)) gt_lw_tbl_wsX110) gt_lw_tbl_wsX90
theorem gL_X11_item : GoodIn lw_tbl (wsV RL 166 RX11 yX11_item wsX11_item) := goodIn_app (goodIn_qs _ [(53, 10, 3), (0, 2, 1)] rfl (by decide +kernel)) ggL_X11_item
set_option maxRecDepth 20000 in
theorem ggL_X12_item : GoodIn lw_tbl wsX12_item := goodIn_ca (goodIn_qs _ [(53, 21, 1), (7, 0, 3), (45, 0, 3), (0, 5, 1), (45, 3, 1), (10, 1, 4), (53, 22, 2), (54, 0, 2)] rfl (by decide +kernel)) gt_lw_tbl_wsX120
theorem gL_X12_item : GoodIn lw_tbl (wsV RL 170 RX12 yX12_item wsX12_item) := goodIn_app (goodIn_qs _ [(53, 18, 3), (0, 5, 1)] rfl (by decide +kernel)) ggL_X12_item
set_option maxRecDepth 20000 in
theorem ggL_X11_read : GoodIn lw_tbl wsX11_read := goodIn_ca (goodIn_ca (goodIn_qs _ [(54, 5, 1), (1, 3, 1), (44, 8, 1), (41, 16, 1), (44, 9, 2), (0, 2, 1), (44, 11, 1), (44, 16, 3), (1, 16, 1), (44, 19, 1), (3, 19, 1)] rfl (by decide +kernel)) gt_lw_tbl_wsX110) gt_lw_tbl_wsX90
theorem gL_X11_read : GoodIn lw_tbl (wsV RL 171 RX11 yX11_read wsX11_read) := goodIn_app (goodIn_qs _ [(54, 2, 3), (0, 2, 1)] rfl (by decide +kernel)) ggL_X11_read
set_option maxRecDepth 20000 in
theorem ggL_X12_read : GoodIn lw_tbl wsX12_read := goodIn_ca (goodIn_qs _ [(54, 9, 1), (7, 0, 2), (42, 0, 1), (7, 2, 1), (45, 0, 3), (0, 5, 1), (45, 3, 1), (10, 1, 4)] rfl (by decide +kernel)) gt_lw_tbl_wsX120
theorem gL_X12_read : GoodIn lw_tbl (wsV RL 174 RX12 yX12_read wsX12_read) := goodIn_app (goodIn_qs _ [(54, 6, 3), (0, 5, 1)] rfl (by decide +kernel)) ggL_X12_read
set_option maxRecDepth 20000 in
theorem ggL_X11_shift : GoodIn lw_tbl wsX11_shift := goodIn_ca (goodIn_ca (goodIn_qs _ [(54, 13, 1), (1, 3, 1), (44, 7, 2), (35, 3, 1), (32, 13, 3), (44, 9, 2), (0, 2, 1), (44, 11, 4), (1, 16, 1), (44, 15, 1), (3, 18, 1), (54, 14, 4), (3, 19, 1)] rfl (by decide +kernel)) gt_lw_tbl_wsX110) gt_lw_tbl_wsX90
theorem gL_X11_shift : GoodIn lw_tbl (wsV RL 175 RX11 yX11_shift wsX11_shift) := goodIn_app (goodIn_qs _ [(54, 10, 3), (0, 2, 1)] rfl (by decide +kernel)) ggL_X11_shift
set_option maxRecDepth 20000 in
theorem ggL_X12_shift : GoodIn lw_tbl wsX12_shift := goodIn_ca (goodIn_qs _ [(54, 21, 1), (7, 0, 2), (7, 3, 1), (7, 2, 1), (45, 0, 3), (0, 5, 1), (45, 3, 1), (10, 1, 4)] rfl (by decide +kernel)) gt_lw_tbl_wsX120
theorem gL_X12_shift : GoodIn lw_tbl (wsV RL 179 RX12 yX12_shift wsX12_shift) := goodIn_app (goodIn_qs _ [(54, 18, 3), (0, 5, 1)] rfl (by decide +kernel)) ggL_X12_shift
/-! THE STATE: numbers, long numbers and references, each by the cell's number and the place in it -/
noncomputable abbrev Sg : Type := (Nat → Nat → Int32) × (Nat → Nat → Int64) × (Nat → Nat → Option Nat)
noncomputable def gi (σ : Sg) (a k : Nat) : Int32 := σ.1 a k
noncomputable def gl (σ : Sg) (a k : Nat) : Int64 := σ.2.1 a k
noncomputable def gr (σ : Sg) (a k : Nat) : Option Nat := σ.2.2 a k
noncomputable def sia (σ : Sg) (a : Nat) (f : Nat → Int32) : Sg := (va_up σ.1 a f, σ.2)
noncomputable def sla (σ : Sg) (a : Nat) (f : Nat → Int64) : Sg := (σ.1, va_up σ.2.1 a f, σ.2.2)
noncomputable def sra (σ : Sg) (a : Nat) (f : Nat → Option Nat) : Sg := (σ.1, σ.2.1, va_up σ.2.2 a f)
noncomputable def si (σ : Sg) (a k : Nat) (v : Int32) : Sg := sia σ a (upd (σ.1 a) k v)
noncomputable def sl (σ : Sg) (a k : Nat) (v : Int64) : Sg := sla σ a (vp_updL (σ.2.1 a) k v)
noncomputable def sr (σ : Sg) (a k : Nat) (v : Option Nat) : Sg := sra σ a (va_up (σ.2.2 a) k v)
noncomputable def kdT : List (Nat × Nat) := [(21, 0), (11, 0), (4, 6), (0, 6), (0, 6), (0, 6), (0, 6), (0, 6), (0, 24), (15, 0), (0, 18), (15, 0), (0, 10), (15, 0), (0, 8), (0, 6), (0, 6), (11, 0), (4, 6), (0, 6), (0, 6), (0, 6), (0, 6), (0, 6), (0, 24), (15, 0), (0, 18), (15, 0), (0, 10), (15, 0), (0, 8), (0, 6), (0, 6), (11, 0), (4, 6), (0, 6), (0, 6), (0, 6), (0, 6), (0, 6), (0, 24), (15, 0), (0, 18), (15, 0), (0, 10), (15, 0), (0, 8), (0, 6), (0, 6), (5, 6), (1, 100), (6, 6), (19, 0), (3, 60), (19, 0), (3, 60), (19, 0), (3, 60), (19, 0), (3, 60), (19, 0), (3, 60), (19, 0), (3, 60), (15, 0), (0, 20), (0, 5), (0, 5), (0, 6), (12, 0), (0, 100), (0, 10), (0, 10), (0, 10), (22, 0), (99, 0), (99, 0), (99, 0), (99, 0), (99, 0), (99, 0), (99, 0), (99, 0), (99, 0), (99, 0), (99, 0), (99, 0), (99, 0), (99, 0), (99, 0), (99, 0), (99, 0), (99, 0), (99, 0), (99, 0), (99, 0), (99, 0), (99, 0), (99, 0), (99, 0), (99, 0), (99, 0), (99, 0), (0, 6), (0, 6), (0, 6), (0, 6), (0, 6), (0, 6), (0, 24), (0, 6), (99, 0), (99, 0), (99, 0), (99, 0), (99, 0), (0, 100), (0, 6), (0, 60), (0, 60), (0, 60), (0, 60), (0, 600), (0, 101), (99, 0), (99, 0), (99, 0), (0, 19), (99, 0), (2, 100), (99, 0), (0, 6), (0, 6), (99, 0), (0, 6), (0, 6), (0, 6), (0, 6), (0, 6), (0, 6), (0, 6), (99, 0), (0, 6), (0, 6), (0, 6), (99, 0), (99, 0), (0, 10), (0, 8), (99, 0), (99, 0), (99, 0), (99, 0), (99, 0), (99, 0), (99, 0), (0, 6), (0, 6), (0, 6), (0, 6), (0, 6), (0, 6), (0, 6), (0, 24), (0, 6), (0, 6), (0, 6), (0, 10), (0, 8), (99, 0), (0, 20), (0, 6), (0, 6), (3, 360), (3, 60)]
/-- the kinds under the first: by their numbers among the kinds of objects -/
noncomputable def mcs : List Nat := [0, 3, 4, 6, 7, 8, 10]
noncomputable def fkd (r : Nat) : Nat × Nat := if r = 0 then (12, 0) else if r = 1 then (0, 100) else (0, 10)
/-- what kind of cell a number stands for: 0 ints, 1 bytes, 2 booleans, 3 longs, 4 mowers, 5 fields, 6 tapes (and how many), 10 and more: an object of that kind -/
noncomputable def kd (id : Nat) : Nat × Nat := if id < 175 then kdT.getD id (99, 0) else if id < 1000 then (99, 0) else if id < 2000 then fkd ((id - 1000) % 5) else if mcs.contains (id % 16) then (10 + id % 16, 0) else (99, 0)
noncomputable def tplT : List (List Nat) := [[0, 0, 0], [3, 0, 4, 0, 5, 6, 7, 8, 9, 0, 1, 0, 10, 12, 14, 16, 17], [0, 0, 0, 3, 0, 4, 5, 6, 0, 1, 0, 0], [0, 0, 0], [0, 0, 0], [3, 0], [0, 0, 0], [0, 0, 0], [0, 0, 0], [3, 0, 0], [0, 0, 0], [3, 19, 35, 0, 51, 0, 52, 0, 53, 66, 68, 69, 70], [0, 0, 0, 31, 32, 33, 34, 35, 36, 37, 38, 0, 0, 0, 0, 0, 44, 45, 46, 47, 48, 49, 50, 51, 0, 0, 0, 55, 0, 57, 0, 59, 60, 0, 62, 63, 64, 65, 66, 67, 68, 0, 70, 71, 72, 0, 0, 75, 76, 0, 0, 0, 0, 0, 0, 0, 84, 85, 86, 87, 88, 89, 90, 91, 92, 93, 94, 95, 96, 0, 98, 99, 100, 101, 102]]
noncomputable def tp (ci k : Nat) : Option Nat := (tplT.getD ci [])[k]?
noncomputable def fv (ad : Nat → Nat) (id : Nat) (f : Nat → Int32) (r : Nat → Option Nat) (k c : Nat) : Value := if c = 0 then .int (f k) else if c = 1 then va_rf ((r k).map ad) else .ref (ad (id + (c - 2)))
noncomputable def flds (ad : Nat → Nat) (id : Nat) (f : Nat → Int32) (r : Nat → Option Nat) (ci : Nat) : List Value := (tplT.getD ci []).mapIdx (fun k c => fv ad id f r k c)
/-- what stays the same for a launch: the tables' numbers, the array kinds, the addresses that may change, the cells' addresses, the cells that were made later, what else is known of the machine -/
noncomputable abbrev Vx : Type := va_G × (Nat → ClassId) × (Nat → Prop) × (Nat → Nat) × List Nat × (State → Prop)
noncomputable def vD (V : Vx) : va_G := V.1
noncomputable def vC (V : Vx) : Nat → ClassId := V.2.1
noncomputable def vA (V : Vx) : Nat → Prop := V.2.2.1
noncomputable def va (V : Vx) : Nat → Nat := V.2.2.2.1
noncomputable def vL (V : Vx) : List Nat := V.2.2.2.2.1
noncomputable def vX (V : Vx) : State → Prop := V.2.2.2.2.2
noncomputable def tysV (V : Vx) : List (ClassId × FieldType) := [(vC V 0, .int), (vC V 1, .byte), (vC V 2, .boolean), (vC V 3, .long), (vC V 4, .object "NineMowers$Mower"), (vC V 5, .object "NineMowers$Field"), (vC V 6, .object "NineMowers$Tape")]
noncomputable def cont (V : Vx) (f : Nat → Int32) (g : Nat → Int64) (r : Nat → Option Nat) (id : Nat) : va_E :=
  if (kd id).1 < 3 then .inl (vC V (kd id).1, (kd id).2, .inl f)
  else if (kd id).1 = 3 then .inl (vC V 3, (kd id).2, .inr (.inl g))
  else if (kd id).1 < 6 then .inl (vC V (kd id).1, (kd id).2, .inr (.inr (.inr (.inr (fun k => (r k).map (va V))))))
  else if (kd id).1 = 6 then .inl (vC V 6, (kd id).2, .inr (.inr (.inr (.inr (fun k => some (va V (id + 1 + 2 * k)))))))
  else .inr ((kd id).1 - 10, flds (va V) id f r ((kd id).1 - 10))
noncomputable def fixL : List Nat := [0, 1, 2, 3, 4, 5, 6, 7, 8, 9, 10, 11, 12, 13, 14, 15, 16, 17, 18, 19, 20, 21, 22, 23, 24, 25, 26, 27, 28, 29, 30, 31, 32, 33, 34, 35, 36, 37, 38, 39, 40, 41, 42, 43, 44, 45, 46, 47, 48, 49, 50, 51, 52, 53, 54, 55, 56, 57, 58, 59, 60, 61, 62, 63, 64, 65, 66, 67, 68, 69, 70, 71, 72, 73, 74, 103, 104, 105, 106, 107, 108, 109, 110, 116, 117, 118, 119, 120, 121, 122, 123, 127, 129, 131, 132, 134, 135, 136, 137, 138, 139, 140, 142, 143, 144, 147, 148, 156, 157, 158, 159, 160, 161, 162, 163, 164, 165, 166, 167, 168, 170, 171, 172, 173, 174]
theorem kd_0 : kd 0 = (21, 0) := by decide +kernel
theorem fx_0 : 0 ∈ fixL := by decide +kernel
theorem kd_1 : kd 1 = (11, 0) := by decide +kernel
theorem fx_1 : 1 ∈ fixL := by decide +kernel
theorem kd_2 : kd 2 = (4, 6) := by decide +kernel
theorem fx_2 : 2 ∈ fixL := by decide +kernel
theorem kd_3 : kd 3 = (0, 6) := by decide +kernel
theorem fx_3 : 3 ∈ fixL := by decide +kernel
theorem kd_4 : kd 4 = (0, 6) := by decide +kernel
theorem fx_4 : 4 ∈ fixL := by decide +kernel
theorem kd_5 : kd 5 = (0, 6) := by decide +kernel
theorem fx_5 : 5 ∈ fixL := by decide +kernel
theorem kd_6 : kd 6 = (0, 6) := by decide +kernel
theorem fx_6 : 6 ∈ fixL := by decide +kernel
theorem kd_7 : kd 7 = (0, 6) := by decide +kernel
theorem fx_7 : 7 ∈ fixL := by decide +kernel
theorem kd_8 : kd 8 = (0, 24) := by decide +kernel
theorem fx_8 : 8 ∈ fixL := by decide +kernel
theorem kd_9 : kd 9 = (15, 0) := by decide +kernel
theorem fx_9 : 9 ∈ fixL := by decide +kernel
theorem kd_10 : kd 10 = (0, 18) := by decide +kernel
theorem fx_10 : 10 ∈ fixL := by decide +kernel
theorem kd_11 : kd 11 = (15, 0) := by decide +kernel
theorem fx_11 : 11 ∈ fixL := by decide +kernel
theorem kd_12 : kd 12 = (0, 10) := by decide +kernel
theorem fx_12 : 12 ∈ fixL := by decide +kernel
theorem kd_13 : kd 13 = (15, 0) := by decide +kernel
theorem fx_13 : 13 ∈ fixL := by decide +kernel
theorem kd_14 : kd 14 = (0, 8) := by decide +kernel
theorem fx_14 : 14 ∈ fixL := by decide +kernel
theorem kd_15 : kd 15 = (0, 6) := by decide +kernel
theorem kd_16 : kd 16 = (0, 6) := by decide +kernel
theorem kd_17 : kd 17 = (11, 0) := by decide +kernel
theorem fx_17 : 17 ∈ fixL := by decide +kernel
theorem kd_18 : kd 18 = (4, 6) := by decide +kernel
theorem kd_19 : kd 19 = (0, 6) := by decide +kernel
theorem kd_20 : kd 20 = (0, 6) := by decide +kernel
theorem kd_21 : kd 21 = (0, 6) := by decide +kernel
theorem kd_22 : kd 22 = (0, 6) := by decide +kernel
theorem kd_23 : kd 23 = (0, 6) := by decide +kernel
theorem kd_24 : kd 24 = (0, 24) := by decide +kernel
theorem kd_25 : kd 25 = (15, 0) := by decide +kernel
theorem kd_26 : kd 26 = (0, 18) := by decide +kernel
theorem kd_27 : kd 27 = (15, 0) := by decide +kernel
theorem kd_28 : kd 28 = (0, 10) := by decide +kernel
theorem kd_29 : kd 29 = (15, 0) := by decide +kernel
theorem kd_30 : kd 30 = (0, 8) := by decide +kernel
theorem kd_31 : kd 31 = (0, 6) := by decide +kernel
theorem kd_32 : kd 32 = (0, 6) := by decide +kernel
theorem kd_33 : kd 33 = (11, 0) := by decide +kernel
theorem fx_33 : 33 ∈ fixL := by decide +kernel
theorem kd_34 : kd 34 = (4, 6) := by decide +kernel
theorem kd_35 : kd 35 = (0, 6) := by decide +kernel
theorem fx_35 : 35 ∈ fixL := by decide +kernel
theorem kd_36 : kd 36 = (0, 6) := by decide +kernel
theorem fx_36 : 36 ∈ fixL := by decide +kernel
theorem kd_37 : kd 37 = (0, 6) := by decide +kernel
theorem kd_38 : kd 38 = (0, 6) := by decide +kernel
theorem kd_39 : kd 39 = (0, 6) := by decide +kernel
theorem fx_39 : 39 ∈ fixL := by decide +kernel
theorem kd_40 : kd 40 = (0, 24) := by decide +kernel
theorem kd_41 : kd 41 = (15, 0) := by decide +kernel
theorem kd_42 : kd 42 = (0, 18) := by decide +kernel
theorem kd_43 : kd 43 = (15, 0) := by decide +kernel
theorem kd_44 : kd 44 = (0, 10) := by decide +kernel
theorem kd_45 : kd 45 = (15, 0) := by decide +kernel
theorem kd_46 : kd 46 = (0, 8) := by decide +kernel
theorem kd_47 : kd 47 = (0, 6) := by decide +kernel
theorem kd_48 : kd 48 = (0, 6) := by decide +kernel
theorem kd_49 : kd 49 = (5, 6) := by decide +kernel
theorem fx_49 : 49 ∈ fixL := by decide +kernel
theorem kd_50 : kd 50 = (1, 100) := by decide +kernel
theorem fx_50 : 50 ∈ fixL := by decide +kernel
theorem kd_51 : kd 51 = (6, 6) := by decide +kernel
theorem fx_51 : 51 ∈ fixL := by decide +kernel
theorem kd_52 : kd 52 = (19, 0) := by decide +kernel
theorem kd_53 : kd 53 = (3, 60) := by decide +kernel
theorem kd_54 : kd 54 = (19, 0) := by decide +kernel
theorem kd_55 : kd 55 = (3, 60) := by decide +kernel
theorem kd_56 : kd 56 = (19, 0) := by decide +kernel
theorem kd_57 : kd 57 = (3, 60) := by decide +kernel
theorem kd_58 : kd 58 = (19, 0) := by decide +kernel
theorem kd_59 : kd 59 = (3, 60) := by decide +kernel
theorem kd_60 : kd 60 = (19, 0) := by decide +kernel
theorem kd_61 : kd 61 = (3, 60) := by decide +kernel
theorem kd_62 : kd 62 = (19, 0) := by decide +kernel
theorem kd_63 : kd 63 = (3, 60) := by decide +kernel
theorem kd_64 : kd 64 = (15, 0) := by decide +kernel
theorem fx_64 : 64 ∈ fixL := by decide +kernel
theorem kd_65 : kd 65 = (0, 20) := by decide +kernel
theorem fx_65 : 65 ∈ fixL := by decide +kernel
theorem kd_66 : kd 66 = (0, 5) := by decide +kernel
theorem fx_66 : 66 ∈ fixL := by decide +kernel
theorem kd_67 : kd 67 = (0, 5) := by decide +kernel
theorem fx_67 : 67 ∈ fixL := by decide +kernel
theorem kd_68 : kd 68 = (0, 6) := by decide +kernel
theorem fx_68 : 68 ∈ fixL := by decide +kernel
theorem kd_69 : kd 69 = (12, 0) := by decide +kernel
theorem kd_70 : kd 70 = (0, 100) := by decide +kernel
theorem kd_71 : kd 71 = (0, 10) := by decide +kernel
theorem kd_72 : kd 72 = (0, 10) := by decide +kernel
theorem kd_73 : kd 73 = (0, 10) := by decide +kernel
theorem kd_74 : kd 74 = (22, 0) := by decide +kernel
theorem fx_74 : 74 ∈ fixL := by decide +kernel
theorem kd_103 : kd 103 = (0, 6) := by decide +kernel
theorem fx_103 : 103 ∈ fixL := by decide +kernel
theorem kd_104 : kd 104 = (0, 6) := by decide +kernel
theorem fx_104 : 104 ∈ fixL := by decide +kernel
theorem kd_105 : kd 105 = (0, 6) := by decide +kernel
theorem fx_105 : 105 ∈ fixL := by decide +kernel
theorem kd_106 : kd 106 = (0, 6) := by decide +kernel
theorem fx_106 : 106 ∈ fixL := by decide +kernel
theorem kd_107 : kd 107 = (0, 6) := by decide +kernel
theorem fx_107 : 107 ∈ fixL := by decide +kernel
theorem kd_108 : kd 108 = (0, 6) := by decide +kernel
theorem fx_108 : 108 ∈ fixL := by decide +kernel
theorem kd_109 : kd 109 = (0, 24) := by decide +kernel
theorem fx_109 : 109 ∈ fixL := by decide +kernel
theorem kd_110 : kd 110 = (0, 6) := by decide +kernel
theorem fx_110 : 110 ∈ fixL := by decide +kernel
theorem kd_116 : kd 116 = (0, 100) := by decide +kernel
theorem fx_116 : 116 ∈ fixL := by decide +kernel
theorem kd_117 : kd 117 = (0, 6) := by decide +kernel
theorem fx_117 : 117 ∈ fixL := by decide +kernel
theorem kd_118 : kd 118 = (0, 60) := by decide +kernel
theorem fx_118 : 118 ∈ fixL := by decide +kernel
theorem kd_119 : kd 119 = (0, 60) := by decide +kernel
theorem fx_119 : 119 ∈ fixL := by decide +kernel
theorem kd_120 : kd 120 = (0, 60) := by decide +kernel
theorem fx_120 : 120 ∈ fixL := by decide +kernel
theorem kd_121 : kd 121 = (0, 60) := by decide +kernel
theorem fx_121 : 121 ∈ fixL := by decide +kernel
theorem kd_122 : kd 122 = (0, 600) := by decide +kernel
theorem fx_122 : 122 ∈ fixL := by decide +kernel
theorem kd_123 : kd 123 = (0, 101) := by decide +kernel
theorem fx_123 : 123 ∈ fixL := by decide +kernel
theorem kd_127 : kd 127 = (0, 19) := by decide +kernel
theorem fx_127 : 127 ∈ fixL := by decide +kernel
theorem kd_129 : kd 129 = (2, 100) := by decide +kernel
theorem fx_129 : 129 ∈ fixL := by decide +kernel
theorem kd_131 : kd 131 = (0, 6) := by decide +kernel
theorem fx_131 : 131 ∈ fixL := by decide +kernel
theorem kd_132 : kd 132 = (0, 6) := by decide +kernel
theorem fx_132 : 132 ∈ fixL := by decide +kernel
theorem kd_134 : kd 134 = (0, 6) := by decide +kernel
theorem fx_134 : 134 ∈ fixL := by decide +kernel
theorem kd_135 : kd 135 = (0, 6) := by decide +kernel
theorem fx_135 : 135 ∈ fixL := by decide +kernel
theorem kd_136 : kd 136 = (0, 6) := by decide +kernel
theorem fx_136 : 136 ∈ fixL := by decide +kernel
theorem kd_137 : kd 137 = (0, 6) := by decide +kernel
theorem fx_137 : 137 ∈ fixL := by decide +kernel
theorem kd_138 : kd 138 = (0, 6) := by decide +kernel
theorem fx_138 : 138 ∈ fixL := by decide +kernel
theorem kd_139 : kd 139 = (0, 6) := by decide +kernel
theorem fx_139 : 139 ∈ fixL := by decide +kernel
theorem kd_140 : kd 140 = (0, 6) := by decide +kernel
theorem fx_140 : 140 ∈ fixL := by decide +kernel
theorem kd_142 : kd 142 = (0, 6) := by decide +kernel
theorem fx_142 : 142 ∈ fixL := by decide +kernel
theorem kd_143 : kd 143 = (0, 6) := by decide +kernel
theorem fx_143 : 143 ∈ fixL := by decide +kernel
theorem kd_144 : kd 144 = (0, 6) := by decide +kernel
theorem fx_144 : 144 ∈ fixL := by decide +kernel
theorem kd_147 : kd 147 = (0, 10) := by decide +kernel
theorem fx_147 : 147 ∈ fixL := by decide +kernel
theorem kd_148 : kd 148 = (0, 8) := by decide +kernel
theorem fx_148 : 148 ∈ fixL := by decide +kernel
theorem kd_156 : kd 156 = (0, 6) := by decide +kernel
theorem fx_156 : 156 ∈ fixL := by decide +kernel
theorem kd_157 : kd 157 = (0, 6) := by decide +kernel
theorem fx_157 : 157 ∈ fixL := by decide +kernel
theorem kd_158 : kd 158 = (0, 6) := by decide +kernel
theorem fx_158 : 158 ∈ fixL := by decide +kernel
theorem kd_159 : kd 159 = (0, 6) := by decide +kernel
theorem fx_159 : 159 ∈ fixL := by decide +kernel
theorem kd_160 : kd 160 = (0, 6) := by decide +kernel
theorem fx_160 : 160 ∈ fixL := by decide +kernel
theorem kd_161 : kd 161 = (0, 6) := by decide +kernel
theorem fx_161 : 161 ∈ fixL := by decide +kernel
theorem kd_162 : kd 162 = (0, 6) := by decide +kernel
theorem fx_162 : 162 ∈ fixL := by decide +kernel
theorem kd_163 : kd 163 = (0, 24) := by decide +kernel
theorem fx_163 : 163 ∈ fixL := by decide +kernel
theorem kd_164 : kd 164 = (0, 6) := by decide +kernel
theorem fx_164 : 164 ∈ fixL := by decide +kernel
theorem kd_165 : kd 165 = (0, 6) := by decide +kernel
theorem fx_165 : 165 ∈ fixL := by decide +kernel
theorem kd_166 : kd 166 = (0, 6) := by decide +kernel
theorem fx_166 : 166 ∈ fixL := by decide +kernel
theorem kd_167 : kd 167 = (0, 10) := by decide +kernel
theorem fx_167 : 167 ∈ fixL := by decide +kernel
theorem kd_168 : kd 168 = (0, 8) := by decide +kernel
theorem fx_168 : 168 ∈ fixL := by decide +kernel
theorem kd_170 : kd 170 = (0, 20) := by decide +kernel
theorem fx_170 : 170 ∈ fixL := by decide +kernel
theorem kd_171 : kd 171 = (0, 6) := by decide +kernel
theorem fx_171 : 171 ∈ fixL := by decide +kernel
theorem kd_172 : kd 172 = (0, 6) := by decide +kernel
theorem fx_172 : 172 ∈ fixL := by decide +kernel
theorem kd_173 : kd 173 = (3, 360) := by decide +kernel
theorem fx_173 : 173 ∈ fixL := by decide +kernel
theorem kd_174 : kd 174 = (3, 60) := by decide +kernel
theorem fx_174 : 174 ∈ fixL := by decide +kernel
noncomputable def ids (V : Vx) : List Nat := fixL ++ vL V
noncomputable def ct (V : Vx) (σ : Sg) (id : Nat) : va_E := cont V (σ.1 id) (σ.2.1 id) (σ.2.2 id) id
noncomputable def cells (V : Vx) (σ : Sg) : va_W := (ids V).map (fun id => (va V id, ct V σ id))
/-- a field that lives has its rows; nothing made later has a number below 1000 -/
noncomputable def wfd (V : Vx) : Prop := ∀ f ∈ ids V, kd f = (12, 0) → f + 1 ∈ ids V ∧ f + 2 ∈ ids V ∧ f + 3 ∈ ids V ∧ f + 4 ∈ ids V
noncomputable def GH (V : Vx) (σ : Sg) (H : Heap) : Prop := va_P (vD V) vwCl (cells V σ) H ∧ va_D (vA V) (cells V σ) ∧ wfd V
/-- the kinds' names -/
noncomputable def mnm (ci : Nat) : String := match vwCl[ci]? with
  | some (C, _, _) => C
  | none => ""
/-- whether the first kind is the second, or under it -/
noncomputable def msub (ci ct : Nat) : Bool := ci == ct || ct == 4 || (ct == 8 && ci == 6) || (ct == 3 && ci == 7) || (ct == 0 && ci == 10)
/-- what the tables say of the kinds -/
noncomputable def IK (U : State) : Prop := ∀ ci ct, ci ∈ mcs → ct ∈ mcs → ∀ c t : ClassId, U.vm.findClass (mnm ci) = some c → U.vm.findClass (mnm ct) = some t → U.vm.assignable c t = msub ci ct
/-- the class's texts: their places in the pool, the texts, their bytes -/
noncomputable def jIdx : List Nat := [64, 97, 99, 101, 103, 105, 123, 125]
noncomputable def jTx : List String := ["fsgtl", "fast ", "slow ", "gap ", "tire ", "long ", "mkpetd", "<=>"]
noncomputable def jByt : List (List Int32) := [[102, 115, 103, 116, 108], [102, 97, 115, 116, 32], [115, 108, 111, 119, 32], [103, 97, 112, 32], [116, 105, 114, 101, 32], [108, 111, 110, 103, 32], [109, 107, 112, 101, 116, 100], [60, 61, 62]]
noncomputable def jLen : List Nat := [5, 5, 5, 4, 5, 5, 6, 3]
noncomputable def slen (i : Nat) : Nat := jLen.getD i 0
noncomputable def sby (i k : Nat) : Int32 := (jByt.getD i []).getD k 0
/-- what is known of the texts: their objects stand for the numbers from 200 on, their rows of bytes from 300 on -/
noncomputable def SX (V : Vx) (U : State) : Prop := vk_S 8 jLen jByt (fun i => va V (200 + i)) (fun i => va V (300 + i)) (vA V) U U.heap ∧ (∀ i : Nat, i < 8 → vk_R "NineMowers$Field" (jIdx.getD i 0) (jTx.getD i "") (va V (200 + i)) U) ∧ va_Z "java/lang/String" "COMPACT_STRINGS" "Z" (.int 1) (vA V) U U.heap ∧ (va_Z "jdk/internal/util/Preconditions" "SIOOBE_FORMATTER" "Ljava/util/function/BiFunction;" .null (vA V) U U.heap ∨ va_Z "jdk/internal/util/Preconditions" "SIOOBE_FORMATTER" "Ljava/util/function/BiFunction;" (.ref (va V 400)) (vA V) U U.heap)
/-- what else is known stays known, and says what the tables say of the kinds, and of the texts -/
noncomputable def XC (V : Vx) : Prop := (∀ (s t : State), (s.WarmedH t.vm ∨ t.vm = s.vm) → s.heap.size ≤ t.heap.size → (∀ q : Nat, q < s.heap.size → ¬ vA V q → t.heap[q]? = s.heap[q]?) → vX V s → vX V t) ∧ (∀ U, vX V U → IK U ∧ SX V U)
noncomputable def GG (V : Vx) (σ : Sg) (U : State) : Prop := GH V σ U.heap ∧ va_K (vD V) vwCl (tysV V) U ∧ vX V U ∧ XC V
theorem GG_mk {V : Vx} {σ : Sg} {H : Heap} {s t : State} {locs : List Loc} (ht : t.heap = H) (hG : GH V σ H) (hK : va_K (vD V) vwCl (tysV V) s) (hX : vX V s ∧ XC V) (hS : va_S (vA V) s.heap H locs) (hW : s.WarmedH t.vm) : GG V σ t :=
  ⟨by rw [ht]; exact hG, va_K.moved hW.alike hK, hX.2.1 s t (Or.inl hW) (by rw [ht]; exact hS.1) (by rw [ht]; exact hS.2.1) hX.1, hX.2⟩
noncomputable def cv (V : Vx) (v : Value) : Value := match v with
  | .ref a => .ref (va V a)
  | v => v
theorem fxl {V : Vx} {id : Nat} (h : id ∈ fixL) : id ∈ ids V := List.mem_append_left _ h
theorem cell_at {V : Vx} {σ : Sg} {id : Nat} (h : id ∈ ids V) : ∃ q0 : Nat, (cells V σ)[q0]? = some (va V id, ct V σ id) :=
  List.getElem?_of_mem (List.mem_map.mpr ⟨id, h, rfl⟩)
theorem cell_set {V : Vx} {σ σ' : Sg} {id q0 : Nat} {A : Nat → Prop} (hD : va_D A (cells V σ)) (hq : (cells V σ)[q0]? = some (va V id, ct V σ id)) (hm : id ∈ ids V) (ho : ∀ j, j ≠ id → ct V σ' j = ct V σ j) :
    (cells V σ).set q0 (va V id, ct V σ' id) = cells V σ' := by
  obtain ⟨i0, hi0⟩ := List.getElem?_of_mem hm
  have h2 : (cells V σ)[i0]? = some (va V id, ct V σ id) := by simp [cells, List.getElem?_map, hi0]
  have e0 : q0 = i0 := hD.1 q0 i0 _ _ hq h2 rfl
  subst e0
  have hl := (List.getElem?_eq_some_iff.mp hq).1
  apply List.ext_getElem?
  intro j
  by_cases hj : j = q0
  · subst hj
    rw [List.getElem?_set_self hl]
    simp [cells, List.getElem?_map, hi0]
  · rw [List.getElem?_set_ne (Ne.symm hj)]
    simp only [cells, List.getElem?_map]
    cases hb : (ids V)[j]? with
    | none => rfl
    | some b =>
      have hne : b ≠ id := by
        intro e
        subst e
        have h3 : (cells V σ)[j]? = some (va V b, ct V σ b) := by simp [cells, List.getElem?_map, hb]
        exact hj (hD.1 j q0 _ _ h3 h2 rfl)
      simp [ho b hne]
theorem va_D_inj {V : Vx} {σ : Sg} {A : Nat → Prop} (hD : va_D A (cells V σ)) {x y : Nat} (hx : x ∈ ids V) (hy : y ∈ ids V) (h : va V x = va V y) : x = y := by
  obtain ⟨i, hi⟩ := List.getElem?_of_mem hx
  obtain ⟨j, hj⟩ := List.getElem?_of_mem hy
  have h1 : (cells V σ)[i]? = some (va V x, ct V σ x) := by simp [cells, List.getElem?_map, hi]
  have h2 : (cells V σ)[j]? = some (va V y, ct V σ y) := by simp [cells, List.getElem?_map, hj]
  have := hD.1 i j _ _ h1 h2 h
  subst this
  exact Option.some.inj (hi.symm.trans hj)
theorem ct_sia {V : Vx} {σ : Sg} {a j : Nat} {f : Nat → Int32} (h : j ≠ a) : ct V (sia σ a f) j = ct V σ j := by
  show cont V (va_up σ.1 a f j) _ _ j = _
  rw [va_up_ne _ _ h]; rfl
theorem ct_sla {V : Vx} {σ : Sg} {a j : Nat} {f : Nat → Int64} (h : j ≠ a) : ct V (sla σ a f) j = ct V σ j := by
  show cont V _ (va_up σ.2.1 a f j) _ j = _
  rw [va_up_ne _ _ h]; rfl
theorem ct_sra {V : Vx} {σ : Sg} {a j : Nat} {f : Nat → Option Nat} (h : j ≠ a) : ct V (sra σ a f) j = ct V σ j := by
  show cont V _ _ (va_up σ.2.2 a f j) j = _
  rw [va_up_ne _ _ h]; rfl
theorem ct_i {V : Vx} {σ : Sg} {a t n : Nat} (h : kd a = (t, n)) (ht : t < 3) : ct V σ a = .inl (vC V t, n, .inl (σ.1 a)) := by
  simp [ct, cont, h, ht]
theorem ct_l {V : Vx} {σ : Sg} {a n : Nat} (h : kd a = (3, n)) : ct V σ a = .inl (vC V 3, n, .inr (.inl (σ.2.1 a))) := by
  simp [ct, cont, h]
theorem ct_r {V : Vx} {σ : Sg} {a t n : Nat} (h : kd a = (t, n)) (h1 : 3 < t) (ht : t < 6) : ct V σ a = .inl (vC V t, n, .inr (.inr (.inr (.inr (fun k => (σ.2.2 a k).map (va V)))))) := by
  have h3 : ¬ t < 3 := by omega
  have h4 : ¬ t = 3 := by omega
  simp [ct, cont, h, h3, h4, ht]
theorem ct_t {V : Vx} {σ : Sg} {a n : Nat} (h : kd a = (6, n)) : ct V σ a = .inl (vC V 6, n, .inr (.inr (.inr (.inr (fun k => some (va V (a + 1 + 2 * k))))))) := by
  simp [ct, cont, h]
theorem ct_o {V : Vx} {σ : Sg} {a ci n : Nat} (h : kd a = (10 + ci, n)) : ct V σ a = .inr (ci, flds (va V) a (σ.1 a) (σ.2.2 a) ci) := by
  have h3 : ¬ (10 + ci) < 3 := by omega
  have h4 : ¬ (10 + ci) = 3 := by omega
  have h5 : ¬ (10 + ci) < 6 := by omega
  have h6 : ¬ (10 + ci) = 6 := by omega
  have h7 : 10 + ci - 10 = ci := by omega
  simp only [ct, cont, h, h3, h4, h5, h6, if_false, h7]
theorem flds_at {ad : Nat → Nat} {id ci k c : Nat} {f : Nat → Int32} {r : Nat → Option Nat} (h : tp ci k = some c) : (flds ad id f r ci)[k]? = some (fv ad id f r k c) := by
  unfold tp at h
  unfold flds
  rw [List.getElem?_mapIdx, h]
  rfl
theorem flds_len {ad : Nat → Nat} {id ci k c : Nat} {f : Nat → Int32} {r : Nat → Option Nat} (h : tp ci k = some c) : k < (flds ad id f r ci).length := (List.getElem?_eq_some_iff.mp (flds_at (ad := ad) (id := id) (f := f) (r := r) h)).1
theorem flds_set_i {ad : Nat → Nat} {id ci k : Nat} {f : Nat → Int32} {r : Nat → Option Nat} {v : Int32} (h : tp ci k = some 0) : (flds ad id f r ci).set k (.int v) = flds ad id (upd f k v) r ci := by
  have hl := flds_len (ad := ad) (id := id) (f := f) (r := r) h
  apply List.ext_getElem?
  intro j
  by_cases hj : j = k
  · subst hj
    rw [List.getElem?_set_self hl, flds_at h]
    simp [fv, upd]
  · rw [List.getElem?_set_ne (Ne.symm hj)]
    simp only [flds, List.getElem?_mapIdx]
    cases hb : (tplT.getD ci [])[j]? with
    | none => rfl
    | some b => simp [fv, upd, hj]
theorem flds_set_r {ad : Nat → Nat} {id ci k : Nat} {f : Nat → Int32} {r : Nat → Option Nat} {v : Option Nat} (h : tp ci k = some 1) : (flds ad id f r ci).set k (va_rf (v.map ad)) = flds ad id f (va_up r k v) ci := by
  have hl := flds_len (ad := ad) (id := id) (f := f) (r := r) h
  apply List.ext_getElem?
  intro j
  by_cases hj : j = k
  · subst hj
    rw [List.getElem?_set_self hl, flds_at h]
    simp [fv, va_up]
  · rw [List.getElem?_set_ne (Ne.symm hj)]
    simp only [flds, List.getElem?_mapIdx]
    cases hb : (tplT.getD ci [])[j]? with
    | none => rfl
    | some b => simp [fv, va_up, hj]
/-! THE MACHINE'S POINT, in words of the state -/
noncomputable abbrev Mx : Type := Program × Launch × Env × Room × State × MethodId × Array Value × List Frame × Method × Code × Vx × Nat × (State → Prop)
noncomputable def mN (M : Mx) : Nat := M.2.2.2.2.2.2.2.2.2.2.2.1
noncomputable def mV (M : Mx) : Vx := M.2.2.2.2.2.2.2.2.2.2.1
noncomputable def mL (M : Mx) : Launch := M.2.1
noncomputable def PS (M : Mx) (pc : Nat) (lv : List (Nat × Value)) (st : List Value) (σ : Sg) (kn : Nat × Nat) : Prop := match M with
  | (p, l, e, R, s, m, args, below, meth, c, V, nL, Q) => ∀ (ls : Array Slot) (H : Heap) (locs : List Loc), lv_has ls nL (lv.map (fun q => (q.1, cv V q.2))) → GH V σ H → va_S (vA V) s.heap H locs → W p l e R s m args below meth c H locs kn.1 kn.2 Q (F0 m pc ls (st.map (cv V)))
/-- what holds all through a method's run -/
noncomputable def Cx (M : Mx) (cc : ByteArray) (ret : Option FieldType) (own : String) (Ts : List Cond) (rm : Room) (mc ms : Nat) (Qc : Array Value → State → Outcome → State → Prop) : Prop := match M with
  | (p, _, _, R, s, m, args, below, meth, c, V, nL, Q) => p.tables.exec = Jvm.exec ∧ c.code = cc ∧ c.maxLocals = nL ∧ s.vm.findClass own = some m.cls ∧ (∀ w ∈ Ts, w.before args s = true) ∧ meth.sig.returnType = ret ∧ meth.locks = false ∧ va_K (vD V) vwCl (tysV V) s ∧ R = rm ∧ Q = MQ below Qc args s mc ms (vA V) ∧ wfd V ∧ vX V s ∧ XC V
noncomputable def QI (V : Vx) (Qc : Int32 → Sg → Prop) : Array Value → State → Outcome → State → Prop := va_Qi Qc (fun σ t => GG V σ t) (vA V)
noncomputable def QL (V : Vx) (Qc : Int64 → Sg → Prop) : Array Value → State → Outcome → State → Prop := va_Ql Qc (fun σ t => GG V σ t) (vA V)
noncomputable def QV (V : Vx) (Qc : Sg → Prop) : Array Value → State → Outcome → State → Prop := va_Qv Qc (fun σ t => GG V σ t) (vA V)
noncomputable def QR (V : Vx) (Qc : Nat → Sg → Prop) : Array Value → State → Outcome → State → Prop := va_Qr (fun u : Nat × Sg => Qc u.1 u.2) (fun u a t => a = va V u.1 ∧ GG V u.2 t) (vA V)
/-- a method's contract from the state σ on -/
noncomputable abbrev Ka (l : Launch) (V : Vx) (y : MethodName) (ws : List Cond) (rm : Room) (mc ms : Nat) (as : List Value) (σ : Sg) (Qc : Array Value → State → Outcome → State → Prop) : Prop := Met l y ws rm (va_Pc (as.map (cv V)) (fun U => GG V σ U)) Qc mc ms (vA V)
section Rules
variable {M : Mx} {cc : ByteArray} {ret : Option FieldType} {own : String} {Ts : List Cond} {rm : Room} {mc ms : Nat} {Qc : Array Value → State → Outcome → State → Prop} {pc : Nat} {lv lv' : List (Nat × Value)} {st : List Value} {σ : Sg} {kn : Nat × Nat}
theorem P_iadd (C : Cx M cc ret own Ts rm mc ms Qc) {x y : Int32} (hd : decode cc pc = .ok (.iadd, 1)) (h : PS M (pc + 1) lv (.int (x + y) :: st) σ kn) : PS M pc lv (.int y :: .int x :: st) σ kn := by
  obtain ⟨p, l, e, R, s, m, args, below, meth, c, V, nL, Q⟩ := M
  intro ls H locs hl hG hS
  exact lv_iadd C.1 C.2.1 hd (h ls H locs hl hG hS)
theorem P_isub (C : Cx M cc ret own Ts rm mc ms Qc) {x y : Int32} (hd : decode cc pc = .ok (.isub, 1)) (h : PS M (pc + 1) lv (.int (x - y) :: st) σ kn) : PS M pc lv (.int y :: .int x :: st) σ kn := by
  obtain ⟨p, l, e, R, s, m, args, below, meth, c, V, nL, Q⟩ := M
  intro ls H locs hl hG hS
  exact lv_isub C.1 C.2.1 hd (h ls H locs hl hG hS)
theorem P_imul (C : Cx M cc ret own Ts rm mc ms Qc) {x y : Int32} (hd : decode cc pc = .ok (.imul, 1)) (h : PS M (pc + 1) lv (.int (x * y) :: st) σ kn) : PS M pc lv (.int y :: .int x :: st) σ kn := by
  obtain ⟨p, l, e, R, s, m, args, below, meth, c, V, nL, Q⟩ := M
  intro ls H locs hl hG hS
  exact lv_imul C.1 C.2.1 hd (h ls H locs hl hG hS)
theorem P_iand (C : Cx M cc ret own Ts rm mc ms Qc) {x y : Int32} (hd : decode cc pc = .ok (.iand, 1)) (h : PS M (pc + 1) lv (.int (x &&& y) :: st) σ kn) : PS M pc lv (.int y :: .int x :: st) σ kn := by
  obtain ⟨p, l, e, R, s, m, args, below, meth, c, V, nL, Q⟩ := M
  intro ls H locs hl hG hS
  exact lv_iand C.1 C.2.1 hd (h ls H locs hl hG hS)
theorem P_ior (C : Cx M cc ret own Ts rm mc ms Qc) {x y : Int32} (hd : decode cc pc = .ok (.ior, 1)) (h : PS M (pc + 1) lv (.int (x ||| y) :: st) σ kn) : PS M pc lv (.int y :: .int x :: st) σ kn := by
  obtain ⟨p, l, e, R, s, m, args, below, meth, c, V, nL, Q⟩ := M
  intro ls H locs hl hG hS
  exact lv_ior C.1 C.2.1 hd (h ls H locs hl hG hS)
theorem P_ixor (C : Cx M cc ret own Ts rm mc ms Qc) {x y : Int32} (hd : decode cc pc = .ok (.ixor, 1)) (h : PS M (pc + 1) lv (.int (x ^^^ y) :: st) σ kn) : PS M pc lv (.int y :: .int x :: st) σ kn := by
  obtain ⟨p, l, e, R, s, m, args, below, meth, c, V, nL, Q⟩ := M
  intro ls H locs hl hG hS
  exact lv_ixor C.1 C.2.1 hd (h ls H locs hl hG hS)
theorem P_ishl (C : Cx M cc ret own Ts rm mc ms Qc) {x y : Int32} (hd : decode cc pc = .ok (.ishl, 1)) (h : PS M (pc + 1) lv (.int (x <<< (y &&& 31)) :: st) σ kn) : PS M pc lv (.int y :: .int x :: st) σ kn := by
  obtain ⟨p, l, e, R, s, m, args, below, meth, c, V, nL, Q⟩ := M
  intro ls H locs hl hG hS
  exact lv_ishl C.1 C.2.1 hd (h ls H locs hl hG hS)
theorem P_ishr (C : Cx M cc ret own Ts rm mc ms Qc) {x y : Int32} (hd : decode cc pc = .ok (.ishr, 1)) (h : PS M (pc + 1) lv (.int (x >>> (y &&& 31)) :: st) σ kn) : PS M pc lv (.int y :: .int x :: st) σ kn := by
  obtain ⟨p, l, e, R, s, m, args, below, meth, c, V, nL, Q⟩ := M
  intro ls H locs hl hG hS
  exact lv_ishr C.1 C.2.1 hd (h ls H locs hl hG hS)
theorem P_ineg (C : Cx M cc ret own Ts rm mc ms Qc) {x : Int32} (hd : decode cc pc = .ok (.ineg, 1)) (h : PS M (pc + 1) lv (.int (-x) :: st) σ kn) : PS M pc lv (.int x :: st) σ kn := by
  obtain ⟨p, l, e, R, s, m, args, below, meth, c, V, nL, Q⟩ := M
  intro ls H locs hl hG hS
  exact lv_ineg C.1 C.2.1 hd (h ls H locs hl hG hS)
theorem P_idiv (C : Cx M cc ret own Ts rm mc ms Qc) {x y : Int32} (hd : decode cc pc = .ok (.idiv, 1)) (hne : ¬ y = 0) (h : PS M (pc + 1) lv (.int (x / y) :: st) σ kn) : PS M pc lv (.int y :: .int x :: st) σ kn := by
  obtain ⟨p, l, e, R, s, m, args, below, meth, c, V, nL, Q⟩ := M
  intro ls H locs hl hG hS
  exact lv_idiv C.1 C.2.1 hd hne (h ls H locs hl hG hS)
theorem P_irem (C : Cx M cc ret own Ts rm mc ms Qc) {x y : Int32} (hd : decode cc pc = .ok (.irem, 1)) (hne : ¬ y = 0) (h : PS M (pc + 1) lv (.int (x - x / y * y) :: st) σ kn) : PS M pc lv (.int y :: .int x :: st) σ kn := by
  obtain ⟨p, l, e, R, s, m, args, below, meth, c, V, nL, Q⟩ := M
  intro ls H locs hl hG hS
  exact lv_irem C.1 C.2.1 hd hne (h ls H locs hl hG hS)
theorem P_iconst (C : Cx M cc ret own Ts rm mc ms Qc) {n : Int} {v : Int32} (hd : decode cc pc = .ok (.iconst n, 1)) (hv : Int32.ofInt n = v) (h : PS M (pc + 1) lv (.int v :: st) σ kn) : PS M pc lv (st) σ kn := by
  obtain ⟨p, l, e, R, s, m, args, below, meth, c, V, nL, Q⟩ := M
  intro ls H locs hl hG hS
  exact lv_iconst C.1 C.2.1 hd hv (h ls H locs hl hG hS)
theorem P_bipush (C : Cx M cc ret own Ts rm mc ms Qc) {n : Int} {v : Int32} (hd : decode cc pc = .ok (.bipush n, 2)) (hv : (Int8.ofInt n).toInt32 = v) (h : PS M (pc + 2) lv (.int v :: st) σ kn) : PS M pc lv (st) σ kn := by
  obtain ⟨p, l, e, R, s, m, args, below, meth, c, V, nL, Q⟩ := M
  intro ls H locs hl hG hS
  exact lv_bipush C.1 C.2.1 hd hv (h ls H locs hl hG hS)
theorem P_sipush (C : Cx M cc ret own Ts rm mc ms Qc) {n : Int} {v : Int32} (hd : decode cc pc = .ok (.sipush n, 3)) (hv : (Int16.ofInt n).toInt32 = v) (h : PS M (pc + 3) lv (.int v :: st) σ kn) : PS M pc lv (st) σ kn := by
  obtain ⟨p, l, e, R, s, m, args, below, meth, c, V, nL, Q⟩ := M
  intro ls H locs hl hG hS
  exact lv_sipush C.1 C.2.1 hd hv (h ls H locs hl hG hS)
theorem P_lconst (C : Cx M cc ret own Ts rm mc ms Qc) {n : Fin 2} {v : Int64} (hd : decode cc pc = .ok (.lconst n, 1)) (hv : Int64.ofNat (n : Nat) = v) (h : PS M (pc + 1) lv (.long v :: st) σ kn) : PS M pc lv (st) σ kn := by
  obtain ⟨p, l, e, R, s, m, args, below, meth, c, V, nL, Q⟩ := M
  intro ls H locs hl hG hS
  exact lv_lconst C.1 C.2.1 hd hv (h ls H locs hl hG hS)
theorem P_i2b (C : Cx M cc ret own Ts rm mc ms Qc) {x : Int32} (hd : decode cc pc = .ok (.i2b, 1)) (h : PS M (pc + 1) lv (.int x.toInt8.toInt32 :: st) σ kn) : PS M pc lv (.int x :: st) σ kn := by
  obtain ⟨p, l, e, R, s, m, args, below, meth, c, V, nL, Q⟩ := M
  intro ls H locs hl hG hS
  exact lv_i2b C.1 C.2.1 hd rfl (h ls H locs hl hG hS)
theorem P_i2s (C : Cx M cc ret own Ts rm mc ms Qc) {x : Int32} (hd : decode cc pc = .ok (.i2s, 1)) (h : PS M (pc + 1) lv (.int x.toInt16.toInt32 :: st) σ kn) : PS M pc lv (.int x :: st) σ kn := by
  obtain ⟨p, l, e, R, s, m, args, below, meth, c, V, nL, Q⟩ := M
  intro ls H locs hl hG hS
  exact lv_i2s C.1 C.2.1 hd rfl (h ls H locs hl hG hS)
theorem P_i2c (C : Cx M cc ret own Ts rm mc ms Qc) {x : Int32} (hd : decode cc pc = .ok (.i2c, 1)) (h : PS M (pc + 1) lv (.int (x.toUInt32 % 65536).toInt32 :: st) σ kn) : PS M pc lv (.int x :: st) σ kn := by
  obtain ⟨p, l, e, R, s, m, args, below, meth, c, V, nL, Q⟩ := M
  intro ls H locs hl hG hS
  exact lv_i2c C.1 C.2.1 hd rfl (h ls H locs hl hG hS)
theorem P_i2l (C : Cx M cc ret own Ts rm mc ms Qc) {x : Int32} (hd : decode cc pc = .ok (.i2l, 1)) (h : PS M (pc + 1) lv (.long x.toInt64 :: st) σ kn) : PS M pc lv (.int x :: st) σ kn := by
  obtain ⟨p, l, e, R, s, m, args, below, meth, c, V, nL, Q⟩ := M
  intro ls H locs hl hG hS
  exact lv_i2l C.1 C.2.1 hd rfl (h ls H locs hl hG hS)
theorem P_l2i (C : Cx M cc ret own Ts rm mc ms Qc) {x : Int64} (hd : decode cc pc = .ok (.l2i, 1)) (h : PS M (pc + 1) lv (.int x.toInt32 :: st) σ kn) : PS M pc lv (.long x :: st) σ kn := by
  obtain ⟨p, l, e, R, s, m, args, below, meth, c, V, nL, Q⟩ := M
  intro ls H locs hl hG hS
  exact lv_l2i C.1 C.2.1 hd rfl (h ls H locs hl hG hS)
theorem P_lcmp (C : Cx M cc ret own Ts rm mc ms Qc) {x y : Int64} (hd : decode cc pc = .ok (.lcmp, 1)) (h : PS M (pc + 1) lv (.int (lg_cmp x y) :: st) σ kn) : PS M pc lv (.long y :: .long x :: st) σ kn := by
  obtain ⟨p, l, e, R, s, m, args, below, meth, c, V, nL, Q⟩ := M
  intro ls H locs hl hG hS
  exact W.lcmp C.1 C.2.1 hd (h ls H locs hl hG hS)
theorem P_land (C : Cx M cc ret own Ts rm mc ms Qc) {x y : Int64} (hd : decode cc pc = .ok (.land, 1)) (h : PS M (pc + 1) lv (.long (x &&& y) :: st) σ kn) : PS M pc lv (.long y :: .long x :: st) σ kn := by
  obtain ⟨p, l, e, R, s, m, args, below, meth, c, V, nL, Q⟩ := M
  intro ls H locs hl hG hS
  exact lv_land C.1 C.2.1 hd (h ls H locs hl hG hS)
theorem P_lor (C : Cx M cc ret own Ts rm mc ms Qc) {x y : Int64} (hd : decode cc pc = .ok (.lor, 1)) (h : PS M (pc + 1) lv (.long (x ||| y) :: st) σ kn) : PS M pc lv (.long y :: .long x :: st) σ kn := by
  obtain ⟨p, l, e, R, s, m, args, below, meth, c, V, nL, Q⟩ := M
  intro ls H locs hl hG hS
  exact lv_lor C.1 C.2.1 hd (h ls H locs hl hG hS)
theorem P_lshl (C : Cx M cc ret own Ts rm mc ms Qc) {x : Int64} {y : Int32} (hd : decode cc pc = .ok (.lshl, 1)) (h : PS M (pc + 1) lv (.long (x <<< (y.toInt64 &&& 63)) :: st) σ kn) : PS M pc lv (.int y :: .long x :: st) σ kn := by
  obtain ⟨p, l, e, R, s, m, args, below, meth, c, V, nL, Q⟩ := M
  intro ls H locs hl hG hS
  exact lv_lshl C.1 C.2.1 hd rfl (h ls H locs hl hG hS)
theorem cv_cat (V : Vx) (v : Value) : (cv V v).category = v.category := by cases v <;> rfl
theorem P_dup (C : Cx M cc ret own Ts rm mc ms Qc) {x : Value} (hd : decode cc pc = .ok (.dup, 1)) (hx : x.category = 1) (h : PS M (pc + 1) lv (x :: x :: st) σ kn) : PS M pc lv (x :: st) σ kn := by
  obtain ⟨p, l, e, R, s, m, args, below, meth, c, V, nL, Q⟩ := M
  intro ls H locs hl hG hS
  exact lv_dup C.1 C.2.1 hd ((cv_cat V x).trans hx) (h ls H locs hl hG hS)
theorem P_dup2 (C : Cx M cc ret own Ts rm mc ms Qc) {x y : Value} (hd : decode cc pc = .ok (.dup2, 1)) (hx : x.category = 1) (hy : y.category = 1) (h : PS M (pc + 1) lv (x :: y :: x :: y :: st) σ kn) : PS M pc lv (x :: y :: st) σ kn := by
  obtain ⟨p, l, e, R, s, m, args, below, meth, c, V, nL, Q⟩ := M
  intro ls H locs hl hG hS
  exact lv_dup2_11 C.1 C.2.1 hd ((cv_cat V x).trans hx) ((cv_cat V y).trans hy) (h ls H locs hl hG hS)
theorem P_pop (C : Cx M cc ret own Ts rm mc ms Qc) {x : Value} (hd : decode cc pc = .ok (.pop, 1)) (hx : x.category = 1) (h : PS M (pc + 1) lv (st) σ kn) : PS M pc lv (x :: st) σ kn := by
  obtain ⟨p, l, e, R, s, m, args, below, meth, c, V, nL, Q⟩ := M
  intro ls H locs hl hG hS
  exact lv_pop C.1 C.2.1 hd ((cv_cat V x).trans hx) (h ls H locs hl hG hS)
theorem P_pop2 (C : Cx M cc ret own Ts rm mc ms Qc) {x : Value} (hd : decode cc pc = .ok (.pop2, 1)) (hx : x.category = 2) (h : PS M (pc + 1) lv (st) σ kn) : PS M pc lv (x :: st) σ kn := by
  obtain ⟨p, l, e, R, s, m, args, below, meth, c, V, nL, Q⟩ := M
  intro ls H locs hl hG hS
  exact lv_pop2_2 C.1 C.2.1 hd ((cv_cat V x).trans hx) (h ls H locs hl hG hS)
theorem P_ldc (C : Cx M cc ret own Ts rm mc ms Qc) {n : Nat} {v : Int32} (hw : Cond.constant own n v ∈ Ts) (hd : decode cc pc = .ok (.ldc n, 2)) (h : PS M (pc + 2) lv (.int v :: st) σ kn) : PS M pc lv st σ kn := by
  obtain ⟨p, l, e, R, s, m, args, below, meth, c, V, nL, Q⟩ := M
  intro ls H locs hl hG hS
  exact lv_ldc C.1 C.2.1 C.2.2.2.1 (C.2.2.2.2.1 _ hw) hd (h ls H locs hl hG hS)
theorem P_ldcw (C : Cx M cc ret own Ts rm mc ms Qc) {n : Nat} {v : Int32} (hw : Cond.constant own n v ∈ Ts) (hd : decode cc pc = .ok (.ldc_w n, 3)) (h : PS M (pc + 3) lv (.int v :: st) σ kn) : PS M pc lv st σ kn := by
  obtain ⟨p, l, e, R, s, m, args, below, meth, c, V, nL, Q⟩ := M
  intro ls H locs hl hG hS
  exact lv_ldcw C.1 C.2.1 C.2.2.2.1 (C.2.2.2.2.1 _ hw) hd (h ls H locs hl hG hS)
theorem P_ldc2 (C : Cx M cc ret own Ts rm mc ms Qc) {n : Nat} {v : Int64} (hw : Cond.constantLong own n v ∈ Ts) (hd : decode cc pc = .ok (.ldc2_w n, 3)) (h : PS M (pc + 3) lv (.long v :: st) σ kn) : PS M pc lv st σ kn := by
  obtain ⟨p, l, e, R, s, m, args, below, meth, c, V, nL, Q⟩ := M
  intro ls H locs hl hG hS
  exact lv_ldc2 C.1 C.2.1 C.2.2.2.1 (C.2.2.2.2.1 _ hw) hd (h ls H locs hl hG hS)
theorem lmap {V : Vx} {lv : List (Nat × Value)} {j i : Nat} {v : Value} (h : lv[j]? = some (i, v)) : (lv.map (fun q => (q.1, cv V q.2)))[j]? = some (i, cv V v) := by rw [List.getElem?_map, h]; rfl
noncomputable def stv (lv : List (Nat × Value)) (i : Nat) (v : Value) : List (Nat × Value) := (i, v) :: lv.filter (fun q => !(q.1 == i) && !(q.1 + 1 == i && q.2.category == 2))
theorem stv_map {V : Vx} {lv lv' : List (Nat × Value)} {i : Nat} {v : Value} (h : stv lv i v = lv') : (i, cv V v) :: (lv.map (fun q => (q.1, cv V q.2))).filter (fun q => !(q.1 == i) && !(q.1 + 1 == i && q.2.category == 2)) = lv'.map (fun q => (q.1, cv V q.2)) := by
  subst h
  simp only [stv, List.map_cons, List.filter_map]
  congr 2
  apply List.filter_congr
  intro q _
  simp [cv_cat]
theorem P_iload_n (C : Cx M cc ret own Ts rm mc ms Qc) {k : Fin 4} {x : Int32} (hd : decode cc pc = .ok (.iload_n k, 1)) (j : Nat) (hj : lv[j]? = some ((k : Nat), .int x)) (h : PS M (pc + 1) lv (.int x :: st) σ kn) : PS M pc lv st σ kn := by
  obtain ⟨p, l, e, R, s, m, args, below, meth, c, V, nL, Q⟩ := M
  intro ls H locs hl hG hS
  exact lv_iload_n C.1 C.2.1 hd rfl (lv_at hl j (lmap hj)) (h ls H locs hl hG hS)
theorem P_iload (C : Cx M cc ret own Ts rm mc ms Qc) {k : Nat} {x : Int32} (hd : decode cc pc = .ok (.iload k, 2)) (j : Nat) (hj : lv[j]? = some (k, .int x)) (h : PS M (pc + 2) lv (.int x :: st) σ kn) : PS M pc lv st σ kn := by
  obtain ⟨p, l, e, R, s, m, args, below, meth, c, V, nL, Q⟩ := M
  intro ls H locs hl hG hS
  exact lv_iload C.1 C.2.1 hd (lv_at hl j (lmap hj)) (h ls H locs hl hG hS)
theorem P_istore_n (C : Cx M cc ret own Ts rm mc ms Qc) {k : Fin 4} {x : Int32} (hd : decode cc pc = .ok (.istore_n k, 1)) (hn : (k : Nat) < mN M) (hl' : stv lv (k : Nat) (.int x) = lv') (h : PS M (pc + 1) lv' st σ kn) : PS M pc lv (.int x :: st) σ kn := by
  obtain ⟨p, l, e, R, s, m, args, below, meth, c, V, nL, Q⟩ := M
  intro ls H locs hl hG hS
  exact lv_istore_n C.1 C.2.1 hd rfl hl hn (stv_map hl') (fun ls hl => h ls H locs hl hG hS)
theorem P_istore (C : Cx M cc ret own Ts rm mc ms Qc) {k : Nat} {x : Int32} (hd : decode cc pc = .ok (.istore k, 2)) (hn : k < mN M) (hl' : stv lv k (.int x) = lv') (h : PS M (pc + 2) lv' st σ kn) : PS M pc lv (.int x :: st) σ kn := by
  obtain ⟨p, l, e, R, s, m, args, below, meth, c, V, nL, Q⟩ := M
  intro ls H locs hl hG hS
  exact lv_istore C.1 C.2.1 hd hl hn (stv_map hl') (fun ls hl => h ls H locs hl hG hS)
theorem P_aload_n (C : Cx M cc ret own Ts rm mc ms Qc) {k : Fin 4} {x : Nat} (hd : decode cc pc = .ok (.aload_n k, 1)) (j : Nat) (hj : lv[j]? = some ((k : Nat), .ref x)) (h : PS M (pc + 1) lv (.ref x :: st) σ kn) : PS M pc lv st σ kn := by
  obtain ⟨p, l, e, R, s, m, args, below, meth, c, V, nL, Q⟩ := M
  intro ls H locs hl hG hS
  exact lv_aload_n C.1 C.2.1 hd rfl (lv_at hl j (lmap hj)) (h ls H locs hl hG hS)
theorem P_aload (C : Cx M cc ret own Ts rm mc ms Qc) {k : Nat} {x : Nat} (hd : decode cc pc = .ok (.aload k, 2)) (j : Nat) (hj : lv[j]? = some (k, .ref x)) (h : PS M (pc + 2) lv (.ref x :: st) σ kn) : PS M pc lv st σ kn := by
  obtain ⟨p, l, e, R, s, m, args, below, meth, c, V, nL, Q⟩ := M
  intro ls H locs hl hG hS
  exact lv_aload C.1 C.2.1 hd (lv_at hl j (lmap hj)) (h ls H locs hl hG hS)
theorem P_astore_n (C : Cx M cc ret own Ts rm mc ms Qc) {k : Fin 4} {x : Nat} (hd : decode cc pc = .ok (.astore_n k, 1)) (hn : (k : Nat) < mN M) (hl' : stv lv (k : Nat) (.ref x) = lv') (h : PS M (pc + 1) lv' st σ kn) : PS M pc lv (.ref x :: st) σ kn := by
  obtain ⟨p, l, e, R, s, m, args, below, meth, c, V, nL, Q⟩ := M
  intro ls H locs hl hG hS
  exact lv_astore_n C.1 C.2.1 hd rfl hl hn (stv_map hl') (fun ls hl => h ls H locs hl hG hS)
theorem P_astore (C : Cx M cc ret own Ts rm mc ms Qc) {k : Nat} {x : Nat} (hd : decode cc pc = .ok (.astore k, 2)) (hn : k < mN M) (hl' : stv lv k (.ref x) = lv') (h : PS M (pc + 2) lv' st σ kn) : PS M pc lv (.ref x :: st) σ kn := by
  obtain ⟨p, l, e, R, s, m, args, below, meth, c, V, nL, Q⟩ := M
  intro ls H locs hl hG hS
  exact lv_astore C.1 C.2.1 hd hl hn (stv_map hl') (fun ls hl => h ls H locs hl hG hS)
theorem P_lload_n (C : Cx M cc ret own Ts rm mc ms Qc) {k : Fin 4} {x : Int64} (hd : decode cc pc = .ok (.lload_n k, 1)) (j : Nat) (hj : lv[j]? = some ((k : Nat), .long x)) (h : PS M (pc + 1) lv (.long x :: st) σ kn) : PS M pc lv st σ kn := by
  obtain ⟨p, l, e, R, s, m, args, below, meth, c, V, nL, Q⟩ := M
  intro ls H locs hl hG hS
  exact lv_lload_n C.1 C.2.1 hd rfl (lv_at hl j (lmap hj)) (h ls H locs hl hG hS)
theorem P_iinc (C : Cx M cc ret own Ts rm mc ms Qc) {i : Nat} {n : Int} {x v : Int32} (hd : decode cc pc = .ok (.iinc i n, 3)) (j : Nat) (hj : lv[j]? = some (i, .int x)) (hv : x + Int32.ofInt n = v) (hn : i < mN M) (hl' : stv lv i (.int v) = lv') (h : PS M (pc + 3) lv' st σ kn) : PS M pc lv st σ kn := by
  obtain ⟨p, l, e, R, s, m, args, below, meth, c, V, nL, Q⟩ := M
  intro ls H locs hl hG hS
  exact lv_iinc C.1 C.2.1 hd hl (lmap hj) hv hn (stv_map hl') (fun ls hl => h ls H locs hl hG hS)
theorem pick_map (V : Vx) (lv : List (Nat × Value)) (ks : List Nat) : lv_pick (lv.map (fun q => (q.1, cv V q.2))) ks = (lv_pick lv ks).map (fun q => (q.1, cv V q.2)) := by
  induction ks with
  | nil => rfl
  | cons k ks ih =>
    unfold lv_pick at ih ⊢
    rw [List.filterMap_cons, List.filterMap_cons, List.getElem?_map, ih]
    cases lv[k]? <;> rfl
/-- fewer locals -/
theorem P_sub (ks : List Nat) (hl' : lv_pick lv ks = lv') (h : PS M pc lv' st σ kn) : PS M pc lv st σ kn := by
  obtain ⟨p, l, e, R, s, m, args, below, meth, c, V, nL, Q⟩ := M
  intro ls H locs hl hG hS
  exact h ls H locs (lv_sub hl ks (by rw [pick_map, hl'])) hG hS
theorem P_goto (C : Cx M cc ret own Ts rm mc ms Qc) {off : Int} {tgt : Nat} (hd : decode cc pc = .ok (.goto off, 3)) (ht : (pc : Int) + off = (tgt : Int)) (h : PS M tgt lv st σ kn) : PS M pc lv st σ kn := by
  obtain ⟨p, l, e, R, s, m, args, below, meth, c, V, nL, Q⟩ := M
  intro ls H locs hl hG hS
  exact lv_goto C.1 C.2.1 hd ht (h ls H locs hl hG hS)
theorem P_if_eq (C : Cx M cc ret own Ts rm mc ms Qc) {x : Int32} {off : Int} {tgt : Nat} (hd : decode cc pc = .ok (.ifCond .eq off, 3)) (ht : (pc : Int) + off = (tgt : Int)) (kt : x = 0 → PS M tgt lv st σ kn) (kf : ¬ x = 0 → PS M (pc + 3) lv st σ kn) : PS M pc lv (.int x :: st) σ kn := by
  obtain ⟨p, l, e, R, s, m, args, below, meth, c, V, nL, Q⟩ := M
  intro ls H locs hl hG hS
  exact lv_if_eq C.1 C.2.1 hd ht (fun q => kt q ls H locs hl hG hS) (fun q => kf q ls H locs hl hG hS)
theorem P_if_ne (C : Cx M cc ret own Ts rm mc ms Qc) {x : Int32} {off : Int} {tgt : Nat} (hd : decode cc pc = .ok (.ifCond .ne off, 3)) (ht : (pc : Int) + off = (tgt : Int)) (kt : ¬ x = 0 → PS M tgt lv st σ kn) (kf : x = 0 → PS M (pc + 3) lv st σ kn) : PS M pc lv (.int x :: st) σ kn := by
  obtain ⟨p, l, e, R, s, m, args, below, meth, c, V, nL, Q⟩ := M
  intro ls H locs hl hG hS
  exact lv_if_ne C.1 C.2.1 hd ht (fun q => kt q ls H locs hl hG hS) (fun q => kf q ls H locs hl hG hS)
theorem P_if_lt (C : Cx M cc ret own Ts rm mc ms Qc) {x : Int32} {off : Int} {tgt : Nat} (hd : decode cc pc = .ok (.ifCond .lt off, 3)) (ht : (pc : Int) + off = (tgt : Int)) (kt : x < 0 → PS M tgt lv st σ kn) (kf : ¬ x < 0 → PS M (pc + 3) lv st σ kn) : PS M pc lv (.int x :: st) σ kn := by
  obtain ⟨p, l, e, R, s, m, args, below, meth, c, V, nL, Q⟩ := M
  intro ls H locs hl hG hS
  exact lv_if_lt C.1 C.2.1 hd ht (fun q => kt q ls H locs hl hG hS) (fun q => kf q ls H locs hl hG hS)
theorem P_if_ge (C : Cx M cc ret own Ts rm mc ms Qc) {x : Int32} {off : Int} {tgt : Nat} (hd : decode cc pc = .ok (.ifCond .ge off, 3)) (ht : (pc : Int) + off = (tgt : Int)) (kt : 0 ≤ x → PS M tgt lv st σ kn) (kf : ¬ 0 ≤ x → PS M (pc + 3) lv st σ kn) : PS M pc lv (.int x :: st) σ kn := by
  obtain ⟨p, l, e, R, s, m, args, below, meth, c, V, nL, Q⟩ := M
  intro ls H locs hl hG hS
  exact lv_if_ge C.1 C.2.1 hd ht (fun q => kt q ls H locs hl hG hS) (fun q => kf q ls H locs hl hG hS)
theorem P_if_le (C : Cx M cc ret own Ts rm mc ms Qc) {x : Int32} {off : Int} {tgt : Nat} (hd : decode cc pc = .ok (.ifCond .le off, 3)) (ht : (pc : Int) + off = (tgt : Int)) (kt : x ≤ 0 → PS M tgt lv st σ kn) (kf : ¬ x ≤ 0 → PS M (pc + 3) lv st σ kn) : PS M pc lv (.int x :: st) σ kn := by
  obtain ⟨p, l, e, R, s, m, args, below, meth, c, V, nL, Q⟩ := M
  intro ls H locs hl hG hS
  exact lv_if_le C.1 C.2.1 hd ht (fun q => kt q ls H locs hl hG hS) (fun q => kf q ls H locs hl hG hS)
theorem P_icmp_eq (C : Cx M cc ret own Ts rm mc ms Qc) {x y : Int32} {off : Int} {tgt : Nat} (hd : decode cc pc = .ok (.if_icmp .eq off, 3)) (ht : (pc : Int) + off = (tgt : Int)) (kt : x = y → PS M tgt lv st σ kn) (kf : ¬ x = y → PS M (pc + 3) lv st σ kn) : PS M pc lv (.int y :: .int x :: st) σ kn := by
  obtain ⟨p, l, e, R, s, m, args, below, meth, c, V, nL, Q⟩ := M
  intro ls H locs hl hG hS
  exact lv_icmp_eq C.1 C.2.1 hd ht (fun q => kt q ls H locs hl hG hS) (fun q => kf q ls H locs hl hG hS)
theorem P_icmp_ne (C : Cx M cc ret own Ts rm mc ms Qc) {x y : Int32} {off : Int} {tgt : Nat} (hd : decode cc pc = .ok (.if_icmp .ne off, 3)) (ht : (pc : Int) + off = (tgt : Int)) (kt : ¬ x = y → PS M tgt lv st σ kn) (kf : x = y → PS M (pc + 3) lv st σ kn) : PS M pc lv (.int y :: .int x :: st) σ kn := by
  obtain ⟨p, l, e, R, s, m, args, below, meth, c, V, nL, Q⟩ := M
  intro ls H locs hl hG hS
  exact lv_icmp_ne C.1 C.2.1 hd ht (fun q => kt q ls H locs hl hG hS) (fun q => kf q ls H locs hl hG hS)
theorem P_icmp_lt (C : Cx M cc ret own Ts rm mc ms Qc) {x y : Int32} {off : Int} {tgt : Nat} (hd : decode cc pc = .ok (.if_icmp .lt off, 3)) (ht : (pc : Int) + off = (tgt : Int)) (kt : x < y → PS M tgt lv st σ kn) (kf : ¬ x < y → PS M (pc + 3) lv st σ kn) : PS M pc lv (.int y :: .int x :: st) σ kn := by
  obtain ⟨p, l, e, R, s, m, args, below, meth, c, V, nL, Q⟩ := M
  intro ls H locs hl hG hS
  exact lv_icmp_lt C.1 C.2.1 hd ht (fun q => kt q ls H locs hl hG hS) (fun q => kf q ls H locs hl hG hS)
theorem P_icmp_ge (C : Cx M cc ret own Ts rm mc ms Qc) {x y : Int32} {off : Int} {tgt : Nat} (hd : decode cc pc = .ok (.if_icmp .ge off, 3)) (ht : (pc : Int) + off = (tgt : Int)) (kt : y ≤ x → PS M tgt lv st σ kn) (kf : ¬ y ≤ x → PS M (pc + 3) lv st σ kn) : PS M pc lv (.int y :: .int x :: st) σ kn := by
  obtain ⟨p, l, e, R, s, m, args, below, meth, c, V, nL, Q⟩ := M
  intro ls H locs hl hG hS
  exact lv_icmp_ge C.1 C.2.1 hd ht (fun q => kt q ls H locs hl hG hS) (fun q => kf q ls H locs hl hG hS)
theorem P_icmp_gt (C : Cx M cc ret own Ts rm mc ms Qc) {x y : Int32} {off : Int} {tgt : Nat} (hd : decode cc pc = .ok (.if_icmp .gt off, 3)) (ht : (pc : Int) + off = (tgt : Int)) (kt : y < x → PS M tgt lv st σ kn) (kf : ¬ y < x → PS M (pc + 3) lv st σ kn) : PS M pc lv (.int y :: .int x :: st) σ kn := by
  obtain ⟨p, l, e, R, s, m, args, below, meth, c, V, nL, Q⟩ := M
  intro ls H locs hl hG hS
  exact lv_icmp_gt C.1 C.2.1 hd ht (fun q => kt q ls H locs hl hG hS) (fun q => kf q ls H locs hl hG hS)
theorem P_icmp_le (C : Cx M cc ret own Ts rm mc ms Qc) {x y : Int32} {off : Int} {tgt : Nat} (hd : decode cc pc = .ok (.if_icmp .le off, 3)) (ht : (pc : Int) + off = (tgt : Int)) (kt : x ≤ y → PS M tgt lv st σ kn) (kf : ¬ x ≤ y → PS M (pc + 3) lv st σ kn) : PS M pc lv (.int y :: .int x :: st) σ kn := by
  obtain ⟨p, l, e, R, s, m, args, below, meth, c, V, nL, Q⟩ := M
  intro ls H locs hl hG hS
  exact lv_icmp_le C.1 C.2.1 hd ht (fun q => kt q ls H locs hl hG hS) (fun q => kf q ls H locs hl hG hS)
theorem P_ifnull (C : Cx M cc ret own Ts rm mc ms Qc) {x : Nat} {off : Int} (hd : decode cc pc = .ok (.ifnull off, 3)) (h : PS M (pc + 3) lv st σ kn) : PS M pc lv (.ref x :: st) σ kn := by
  obtain ⟨p, l, e, R, s, m, args, below, meth, c, V, nL, Q⟩ := M
  intro ls H locs hl hG hS
  exact lv_ifnull C.1 C.2.1 hd (h ls H locs hl hG hS)
theorem P_ifnullN (C : Cx M cc ret own Ts rm mc ms Qc) {off : Int} {tgt : Nat} (hd : decode cc pc = .ok (.ifnull off, 3)) (ht : (pc : Int) + off = (tgt : Int)) (h : PS M tgt lv st σ kn) : PS M pc lv (.null :: st) σ kn := by
  obtain ⟨p, l, e, R, s, m, args, below, meth, c, V, nL, Q⟩ := M
  intro ls H locs hl hG hS
  exact lv_ifnullN C.1 C.2.1 hd ht (h ls H locs hl hG hS)
theorem P_ifnonnull (C : Cx M cc ret own Ts rm mc ms Qc) {x : Nat} {off : Int} {tgt : Nat} (hd : decode cc pc = .ok (.ifnonnull off, 3)) (ht : (pc : Int) + off = (tgt : Int)) (h : PS M tgt lv st σ kn) : PS M pc lv (.ref x :: st) σ kn := by
  obtain ⟨p, l, e, R, s, m, args, below, meth, c, V, nL, Q⟩ := M
  intro ls H locs hl hG hS
  exact lv_ifnonnull C.1 C.2.1 hd ht (h ls H locs hl hG hS)
theorem P_ifnonnullN (C : Cx M cc ret own Ts rm mc ms Qc) {off : Int} (hd : decode cc pc = .ok (.ifnonnull off, 3)) (h : PS M (pc + 3) lv st σ kn) : PS M pc lv (.null :: st) σ kn := by
  obtain ⟨p, l, e, R, s, m, args, below, meth, c, V, nL, Q⟩ := M
  intro ls H locs hl hG hS
  exact lv_ifnonnullN C.1 C.2.1 hd (h ls H locs hl hG hS)
theorem P_tsw (C : Cx M cc ret own Ts rm mc ms Qc) {dflt lo hi : Int} {offs : Array Int} {len : Nat} {x : Int32} (hd : decode cc pc = .ok (.tableswitch dflt lo hi offs, len)) (tgt : Nat) (ht : (pc : Int) + dflt = (tgt : Int)) (ho : x.toInt < lo ∨ hi < x.toInt → PS M tgt lv st σ kn) (hsz : hi - lo + 1 = offs.size)
    (hin : ∀ (i : Nat) (off : Int), offs[i]? = some off → x.toInt = lo + i → PS M ((pc : Int) + off).toNat lv st σ kn ∧ 0 ≤ (pc : Int) + off) : PS M pc lv (.int x :: st) σ kn := by
  obtain ⟨p, l, e, R, s, m, args, below, meth, c, V, nL, Q⟩ := M
  intro ls H locs hl hG hS
  by_cases h : x.toInt < lo ∨ hi < x.toInt
  · exact lv_tableOut C.1 C.2.1 hd h ht (ho h ls H locs hl hG hS)
  · have h1 : ¬ x.toInt < lo := fun q => h (Or.inl q)
    have h2 : ¬ hi < x.toInt := fun q => h (Or.inr q)
    have h3 : (x.toInt - lo).toNat < offs.size := by omega
    obtain ⟨k1, k2⟩ := hin (x.toInt - lo).toNat _ (Array.getElem?_eq_getElem h3) (by omega)
    exact lv_tableIn C.1 C.2.1 hd h1 h2 (Array.getElem?_eq_getElem h3) (Int.toNat_of_nonneg k2).symm (k1 ls H locs hl hG hS)
theorem P_lsw (C : Cx M cc ret own Ts rm mc ms Qc) {dflt : Int} {ps : Array (Int × Int)} {len : Nat} {x : Int32} (hd : decode cc pc = .ok (.lookupswitch dflt ps, len)) (hp : (ps.toList.zip (ps.toList.drop 1)).all (fun (a, next) => a.1 < next.1) = true)
    (hin : ∀ (off : Int), Op.lookupswitch.offset ps.toList dflt x.toInt = off → PS M ((pc : Int) + off).toNat lv st σ kn ∧ 0 ≤ (pc : Int) + off) : PS M pc lv (.int x :: st) σ kn := by
  obtain ⟨p, l, e, R, s, m, args, below, meth, c, V, nL, Q⟩ := M
  intro ls H locs hl hG hS
  obtain ⟨k1, k2⟩ := hin _ rfl
  exact lv_lookup C.1 C.2.1 hd hp rfl (Int.toNat_of_nonneg k2).symm (k1 ls H locs hl hG hS)
/-- a read of the field k of kind ci is linked at the pool's place idx, by the name of the class rn -/
noncomputable def FA (own : String) (Ts : List Cond) (idx ci k : Nat) (rn : String) : Prop := match vwCl[ci]? with
  | some (C, T, N) => k < N ∧ (∀ w ∈ u_ws C T N, w ∈ Ts) ∧ Cond.fieldLink own idx rn (T k).2.1 (T k).2.2.1 ∈ Ts ∧ (rn = (T k).1 ∨ Cond.sameField rn (T k).1 (T k).2.1 (T k).2.2.1 ∈ Ts)
  | none => False
theorem P_get0 (C : Cx M cc ret own Ts rm mc ms Qc) {idx ci k n id c : Nat} {rn : String} (hf : FA own Ts idx ci k rn) (hk : kd id = (10 + ci, n)) (ht : tp ci k = some c) (hi : id ∈ ids (mV M)) {v : Value} (hv : fv (va (mV M)) id (σ.1 id) (σ.2.2 id) k c = cv (mV M) v) (hd : decode cc pc = .ok (.getfield idx, 3)) (h : PS M (pc + 3) lv (v :: st) σ kn) : PS M pc lv (.ref id :: st) σ kn := by
  obtain ⟨p, l, e, R, s, m, args, below, meth, c, V, nL, Q⟩ := M
  intro ls H locs hl hG hS
  obtain ⟨q0, hq⟩ := cell_at (V := V) hi
  rw [ct_o hk] at hq
  unfold FA at hf
  cases hcl : vwCl[ci]? with
  | none => rw [hcl] at hf; exact hf.elim
  | some r =>
    obtain ⟨Cn, T, N⟩ := r
    rw [hcl] at hf
    obtain ⟨f1, f2, f3, f4⟩ := hf
    refine va_get (D := vD V) (v := cv V v) C.1 C.2.1 C.2.2.2.2.1 f2 C.2.2.2.1 C.2.2.2.2.2.2.2.1 hG.1 q0 hq hcl k f1 (C.2.2.2.2.1 _ f3) ?_ ((flds_at ht).trans (congrArg some hv)) hd (h ls H locs hl hG hS)
    rcases f4 with f4 | f4
    · subst f4; exact fun _ h => h
    · exact u_same (C.2.2.2.2.1 _ f4)
theorem P_getI (C : Cx M cc ret own Ts rm mc ms Qc) {idx ci k n id : Nat} {rn : String} (hf : FA own Ts idx ci k rn) (hk : kd id = (10 + ci, n)) (ht : tp ci k = some 0) (hi : id ∈ ids (mV M)) (hd : decode cc pc = .ok (.getfield idx, 3)) (h : PS M (pc + 3) lv (.int (gi σ id k) :: st) σ kn) : PS M pc lv (.ref id :: st) σ kn :=
  P_get0 C hf hk ht hi rfl hd h
theorem P_getS (C : Cx M cc ret own Ts rm mc ms Qc) {idx ci k n id d e : Nat} {rn : String} (hf : FA own Ts idx ci k rn) (hk : kd id = (10 + ci, n)) (ht : tp ci k = some (d + 2)) (hi : id ∈ ids (mV M)) (he : id + d = e) (hd : decode cc pc = .ok (.getfield idx, 3)) (h : PS M (pc + 3) lv (.ref e :: st) σ kn) : PS M pc lv (.ref id :: st) σ kn :=
  P_get0 C hf hk ht hi (by subst he; simp [fv, cv]) hd h
theorem P_getD (C : Cx M cc ret own Ts rm mc ms Qc) {idx ci k n id μ : Nat} {rn : String} (hf : FA own Ts idx ci k rn) (hk : kd id = (10 + ci, n)) (ht : tp ci k = some 1) (hi : id ∈ ids (mV M)) (hr : gr σ id k = some μ) (hd : decode cc pc = .ok (.getfield idx, 3)) (h : PS M (pc + 3) lv (.ref μ :: st) σ kn) : PS M pc lv (.ref id :: st) σ kn :=
  P_get0 C hf hk ht hi (by have hr : σ.2.2 id k = some μ := hr; simp [fv, cv, hr, va_rf]) hd h
theorem P_getN (C : Cx M cc ret own Ts rm mc ms Qc) {idx ci k n id : Nat} {rn : String} (hf : FA own Ts idx ci k rn) (hk : kd id = (10 + ci, n)) (ht : tp ci k = some 1) (hi : id ∈ ids (mV M)) (hr : gr σ id k = none) (hd : decode cc pc = .ok (.getfield idx, 3)) (h : PS M (pc + 3) lv (.null :: st) σ kn) : PS M pc lv (.ref id :: st) σ kn :=
  P_get0 C hf hk ht hi (by have hr : σ.2.2 id k = none := hr; simp [fv, cv, hr, va_rf]) hd h
noncomputable def PA (own : String) (Ts : List Cond) (idx ci k : Nat) (rn : String) (ty : FieldType) : Prop := match vwCl[ci]? with
  | some (C, T, N) => k < N ∧ (∀ w ∈ u_ws C T N, w ∈ Ts) ∧ Cond.fieldLink own idx rn (T k).2.1 (T k).2.2.1 ∈ Ts ∧ rn = (T k).1 ∧ (T k).2.2.2 = false ∧ parseFieldDescriptor (T k).2.2.1 = some ty ∧ (∃ ty0 : Nat → FieldType, ∀ k, k < N → parseFieldDescriptor (T k).2.2.1 = some (ty0 k)) ∧ (∀ a, a < N → ∀ b, b < N → a ≠ b → (T a).2.1 ≠ (T b).2.1)
  | none => False
theorem P_put0 (C : Cx M cc ret own Ts rm mc ms Qc) {idx ci k n id c : Nat} {rn : String} {ty : FieldType} (hf : PA own Ts idx ci k rn ty) (hk : kd id = (10 + ci, n)) (ht : tp ci k = some c) (hi : id ∈ ids (mV M)) {v : Value} (hn : narrow ty (cv (mV M) v) = cv (mV M) v) (hfit : fits ty (cv (mV M) v) = true) {σ' : Sg} (hs : ct (mV M) σ' id = .inr (ci, (flds (va (mV M)) id (σ.1 id) (σ.2.2 id) ci).set k (cv (mV M) v))) (ho : ∀ j, j ≠ id → ct (mV M) σ' j = ct (mV M) σ j) (hd : decode cc pc = .ok (.putfield idx, 3)) (h : PS M (pc + 3) lv st σ' kn) : PS M pc lv (v :: .ref id :: st) σ kn := by
  obtain ⟨p, l, e, R, s, m, args, below, meth, c, V, nL, Q⟩ := M
  intro ls H locs hl hG hS
  obtain ⟨q0, hq⟩ := cell_at (V := V) hi
  have hq0 := hq
  rw [ct_o hk] at hq
  unfold PA at hf
  cases hcl : vwCl[ci]? with
  | none => rw [hcl] at hf; exact hf.elim
  | some r =>
    obtain ⟨Cn, T, N⟩ := r
    rw [hcl] at hf
    obtain ⟨f1, f2, f3, f4, f5, f6, ⟨ty0, f7⟩, f8⟩ := hf
    refine va_put (D := vD V) (v := cv V v) C.1 C.2.1 C.2.2.2.2.1 f2 ty0 f7 f8 C.2.2.2.1 C.2.2.2.2.2.2.2.1 hG.1 hG.2.1 hS q0 hq hcl k f1 (C.2.2.2.2.1 _ f3) (by subst f4; exact fun _ h => h) f5 f6 hn hfit (flds_len ht) hd (fun H1 locs1 hP hD hS => ?_)
    have e : (cells V σ).set q0 (va V id, .inr (ci, (flds (va V) id (σ.1 id) (σ.2.2 id) ci).set k (cv V v))) = cells V σ' := by
      have e := cell_set (σ' := σ') hG.2.1 hq0 hi ho
      rw [show ct V σ' id = _ from hs] at e
      exact e
    rw [e] at hP hD
    exact h ls H1 locs1 hl ⟨hP, hD, hG.2.2⟩ hS
theorem P_putI (C : Cx M cc ret own Ts rm mc ms Qc) {idx ci k n id : Nat} {rn : String} (hf : PA own Ts idx ci k rn .int) (hk : kd id = (10 + ci, n)) (ht : tp ci k = some 0) (hi : id ∈ ids (mV M)) {v : Int32} (hd : decode cc pc = .ok (.putfield idx, 3)) (h : PS M (pc + 3) lv st (si σ id k v) kn) : PS M pc lv (.int v :: .ref id :: st) σ kn :=
  P_put0 C hf hk ht hi rfl rfl (by rw [ct_o hk]; show _ = Sum.inr (ci, List.set _ k (Value.int v)); rw [flds_set_i ht]; show Sum.inr (ci, flds _ _ (va_up σ.1 id _ id) _ _) = _; rw [va_up_self]; rfl) (fun j hj => ct_sia hj) hd h
theorem P_putZ (C : Cx M cc ret own Ts rm mc ms Qc) {idx ci k n id : Nat} {rn : String} (hf : PA own Ts idx ci k rn .boolean) (hk : kd id = (10 + ci, n)) (ht : tp ci k = some 0) (hi : id ∈ ids (mV M)) {v : Int32} (hv : narrow .boolean (.int v) = .int v) (hw : fits .boolean (.int v) = true) (hd : decode cc pc = .ok (.putfield idx, 3)) (h : PS M (pc + 3) lv st (si σ id k v) kn) : PS M pc lv (.int v :: .ref id :: st) σ kn :=
  P_put0 C hf hk ht hi hv hw (by rw [ct_o hk]; show _ = Sum.inr (ci, List.set _ k (Value.int v)); rw [flds_set_i ht]; show Sum.inr (ci, flds _ _ (va_up σ.1 id _ id) _ _) = _; rw [va_up_self]; rfl) (fun j hj => ct_sia hj) hd h
theorem P_putD (C : Cx M cc ret own Ts rm mc ms Qc) {idx ci k n id μ : Nat} {rn : String} {ty : FieldType} (hf : PA own Ts idx ci k rn ty) (hk : kd id = (10 + ci, n)) (ht : tp ci k = some 1) (hi : id ∈ ids (mV M)) (hn : ∀ a, narrow ty (.ref a) = .ref a) (hw : ∀ a, fits ty (.ref a) = true) (hd : decode cc pc = .ok (.putfield idx, 3)) (h : PS M (pc + 3) lv st (sr σ id k (some μ)) kn) : PS M pc lv (.ref μ :: .ref id :: st) σ kn :=
  P_put0 C hf hk ht hi (hn _) (hw _) (by rw [ct_o hk]; show _ = Sum.inr (ci, List.set _ k (va_rf ((some μ).map _))); rw [flds_set_r ht]; show Sum.inr (ci, flds _ _ _ (va_up σ.2.2 id _ id) _) = _; rw [va_up_self]; rfl) (fun j hj => ct_sra hj) hd h
theorem ty_at (V : Vx) {t : Nat} (h : t < 7) : ∃ ty, (tysV V)[t]? = some (vC V t, ty) := by
  match t, h with
  | 0, _ => exact ⟨_, rfl⟩
  | 1, _ => exact ⟨_, rfl⟩
  | 2, _ => exact ⟨_, rfl⟩
  | 3, _ => exact ⟨_, rfl⟩
  | 4, _ => exact ⟨_, rfl⟩
  | 5, _ => exact ⟨_, rfl⟩
  | 6, _ => exact ⟨_, rfl⟩
theorem P_iald (C : Cx M cc ret own Ts rm mc ms Qc) {id n : Nat} {i : Int32} (hk : kd id = (0, n)) (hi : id ∈ ids (mV M)) (hin : vp_in i n) (hd : decode cc pc = .ok (.iaload, 1)) (h : PS M (pc + 1) lv (.int (gi σ id i.toNatClampNeg) :: st) σ kn) : PS M pc lv (.int i :: .ref id :: st) σ kn := by
  obtain ⟨p, l, e, R, s, m, args, below, meth, c, V, nL, Q⟩ := M
  intro ls H locs hl hG hS
  obtain ⟨q0, hq⟩ := cell_at (V := V) hi
  rw [ct_i hk (by decide +kernel)] at hq
  exact va_iald (D := vD V) C.1 C.2.1 C.2.2.2.2.2.2.2.1 hG.1 q0 0 hq rfl hin hd (h ls H locs hl hG hS)
theorem P_bald (C : Cx M cc ret own Ts rm mc ms Qc) {id n : Nat} {i : Int32} (hk : kd id = (1, n)) (hi : id ∈ ids (mV M)) (hin : vp_in i n) (hd : decode cc pc = .ok (.baload, 1)) (h : PS M (pc + 1) lv (.int (gi σ id i.toNatClampNeg) :: st) σ kn) : PS M pc lv (.int i :: .ref id :: st) σ kn := by
  obtain ⟨p, l, e, R, s, m, args, below, meth, c, V, nL, Q⟩ := M
  intro ls H locs hl hG hS
  obtain ⟨q0, hq⟩ := cell_at (V := V) hi
  rw [ct_i hk (by decide +kernel)] at hq
  exact va_bald (D := vD V) C.1 C.2.1 C.2.2.2.2.2.2.2.1 hG.1 q0 1 hq rfl hin hd (h ls H locs hl hG hS)
theorem P_zald (C : Cx M cc ret own Ts rm mc ms Qc) {id n : Nat} {i : Int32} (hk : kd id = (2, n)) (hi : id ∈ ids (mV M)) (hin : vp_in i n) (hd : decode cc pc = .ok (.baload, 1)) (h : PS M (pc + 1) lv (.int (gi σ id i.toNatClampNeg) :: st) σ kn) : PS M pc lv (.int i :: .ref id :: st) σ kn := by
  obtain ⟨p, l, e, R, s, m, args, below, meth, c, V, nL, Q⟩ := M
  intro ls H locs hl hG hS
  obtain ⟨q0, hq⟩ := cell_at (V := V) hi
  rw [ct_i hk (by decide +kernel)] at hq
  exact va_zald (D := vD V) C.1 C.2.1 C.2.2.2.2.2.2.2.1 hG.1 q0 2 hq rfl hin hd (h ls H locs hl hG hS)
theorem P_lald (C : Cx M cc ret own Ts rm mc ms Qc) {id n : Nat} {i : Int32} (hk : kd id = (3, n)) (hi : id ∈ ids (mV M)) (hin : vp_in i n) (hd : decode cc pc = .ok (.laload, 1)) (h : PS M (pc + 1) lv (.long (gl σ id i.toNatClampNeg) :: st) σ kn) : PS M pc lv (.int i :: .ref id :: st) σ kn := by
  obtain ⟨p, l, e, R, s, m, args, below, meth, c, V, nL, Q⟩ := M
  intro ls H locs hl hG hS
  obtain ⟨q0, hq⟩ := cell_at (V := V) hi
  rw [ct_l hk] at hq
  exact va_lald (D := vD V) C.1 C.2.1 C.2.2.2.2.2.2.2.1 hG.1 q0 3 hq rfl hin hd (h ls H locs hl hG hS)
theorem P_iast (C : Cx M cc ret own Ts rm mc ms Qc) {id n : Nat} {i : Int32} {x : Int32} (hk : kd id = (0, n)) (hi : id ∈ ids (mV M)) (hin : vp_in i n) (hd : decode cc pc = .ok (.iastore, 1)) (h : PS M (pc + 1) lv st (si σ id i.toNatClampNeg x) kn) : PS M pc lv (.int x :: .int i :: .ref id :: st) σ kn := by
  obtain ⟨p, l, e, R, s, m, args, below, meth, c, V, nL, Q⟩ := M
  intro ls H locs hl hG hS
  obtain ⟨q0, hq⟩ := cell_at (V := V) hi
  have hq0 := hq
  rw [ct_i hk (by decide +kernel)] at hq
  refine va_iast (D := vD V) C.1 C.2.1 C.2.2.2.2.2.2.2.1 hG.1 hG.2.1 hS q0 0 hq rfl hin hd (fun H1 locs1 hP hD hS => ?_)
  have e : (cells V σ).set q0 (va V id, .inl (vC V 0, n, .inl (upd (σ.1 id) i.toNatClampNeg x))) = cells V (si σ id i.toNatClampNeg x) := by
    have e := cell_set (σ' := si σ id i.toNatClampNeg x) hG.2.1 hq0 hi (fun j hj => ct_sia hj)
    rw [ct_i hk (by decide +kernel)] at e
    rw [← e]
    show _ = List.set _ _ (_, Sum.inl (_, _, Sum.inl (va_up σ.1 id _ id)))
    rw [va_up_self]
  rw [e] at hP hD
  exact h ls H1 locs1 hl ⟨hP, hD, hG.2.2⟩ hS
theorem P_bast (C : Cx M cc ret own Ts rm mc ms Qc) {id n : Nat} {i : Int32} {x : Int32} (hk : kd id = (1, n)) (hi : id ∈ ids (mV M)) (hin : vp_in i n) (hd : decode cc pc = .ok (.bastore, 1)) (h : PS M (pc + 1) lv st (si σ id i.toNatClampNeg (vp_nar .byte x)) kn) : PS M pc lv (.int x :: .int i :: .ref id :: st) σ kn := by
  obtain ⟨p, l, e, R, s, m, args, below, meth, c, V, nL, Q⟩ := M
  intro ls H locs hl hG hS
  obtain ⟨q0, hq⟩ := cell_at (V := V) hi
  have hq0 := hq
  rw [ct_i hk (by decide +kernel)] at hq
  refine va_bast (D := vD V) C.1 C.2.1 C.2.2.2.2.2.2.2.1 hG.1 hG.2.1 hS q0 1 hq rfl hin hd (fun H1 locs1 hP hD hS => ?_)
  have e : (cells V σ).set q0 (va V id, .inl (vC V 1, n, .inl (upd (σ.1 id) i.toNatClampNeg (vp_nar .byte x)))) = cells V (si σ id i.toNatClampNeg (vp_nar .byte x)) := by
    have e := cell_set (σ' := si σ id i.toNatClampNeg (vp_nar .byte x)) hG.2.1 hq0 hi (fun j hj => ct_sia hj)
    rw [ct_i hk (by decide +kernel)] at e
    rw [← e]
    show _ = List.set _ _ (_, Sum.inl (_, _, Sum.inl (va_up σ.1 id _ id)))
    rw [va_up_self]
  rw [e] at hP hD
  exact h ls H1 locs1 hl ⟨hP, hD, hG.2.2⟩ hS
theorem P_zast (C : Cx M cc ret own Ts rm mc ms Qc) {id n : Nat} {i : Int32} {x : Int32} (hk : kd id = (2, n)) (hi : id ∈ ids (mV M)) (hin : vp_in i n) (hd : decode cc pc = .ok (.bastore, 1)) (h : PS M (pc + 1) lv st (si σ id i.toNatClampNeg (vp_nar .boolean x)) kn) : PS M pc lv (.int x :: .int i :: .ref id :: st) σ kn := by
  obtain ⟨p, l, e, R, s, m, args, below, meth, c, V, nL, Q⟩ := M
  intro ls H locs hl hG hS
  obtain ⟨q0, hq⟩ := cell_at (V := V) hi
  have hq0 := hq
  rw [ct_i hk (by decide +kernel)] at hq
  refine va_zast (D := vD V) C.1 C.2.1 C.2.2.2.2.2.2.2.1 hG.1 hG.2.1 hS q0 2 hq rfl hin hd (fun H1 locs1 hP hD hS => ?_)
  have e : (cells V σ).set q0 (va V id, .inl (vC V 2, n, .inl (upd (σ.1 id) i.toNatClampNeg (vp_nar .boolean x)))) = cells V (si σ id i.toNatClampNeg (vp_nar .boolean x)) := by
    have e := cell_set (σ' := si σ id i.toNatClampNeg (vp_nar .boolean x)) hG.2.1 hq0 hi (fun j hj => ct_sia hj)
    rw [ct_i hk (by decide +kernel)] at e
    rw [← e]
    show _ = List.set _ _ (_, Sum.inl (_, _, Sum.inl (va_up σ.1 id _ id)))
    rw [va_up_self]
  rw [e] at hP hD
  exact h ls H1 locs1 hl ⟨hP, hD, hG.2.2⟩ hS
theorem P_last (C : Cx M cc ret own Ts rm mc ms Qc) {id n : Nat} {i : Int32} {x : Int64} (hk : kd id = (3, n)) (hi : id ∈ ids (mV M)) (hin : vp_in i n) (hd : decode cc pc = .ok (.lastore, 1)) (h : PS M (pc + 1) lv st (sl σ id i.toNatClampNeg x) kn) : PS M pc lv (.long x :: .int i :: .ref id :: st) σ kn := by
  obtain ⟨p, l, e, R, s, m, args, below, meth, c, V, nL, Q⟩ := M
  intro ls H locs hl hG hS
  obtain ⟨q0, hq⟩ := cell_at (V := V) hi
  have hq0 := hq
  rw [ct_l hk] at hq
  refine va_last (D := vD V) C.1 C.2.1 C.2.2.2.2.2.2.2.1 hG.1 hG.2.1 hS q0 3 hq rfl hin hd (fun H1 locs1 hP hD hS => ?_)
  have e : (cells V σ).set q0 (va V id, .inl (vC V 3, n, .inr (.inl (vp_updL (σ.2.1 id) i.toNatClampNeg x)))) = cells V (sl σ id i.toNatClampNeg x) := by
    have e := cell_set (σ' := sl σ id i.toNatClampNeg x) hG.2.1 hq0 hi (fun j hj => ct_sla hj)
    rw [ct_l hk] at e
    rw [← e]
    show _ = List.set _ _ (_, Sum.inl (_, _, Sum.inr (Sum.inl (va_up σ.2.1 id _ id))))
    rw [va_up_self]
  rw [e] at hP hD
  exact h ls H1 locs1 hl ⟨hP, hD, hG.2.2⟩ hS
theorem P_aldD (C : Cx M cc ret own Ts rm mc ms Qc) {id t n μ : Nat} {i : Int32} (hk : kd id = (t, n)) (h1 : t = 4 ∨ t = 5) (hi : id ∈ ids (mV M)) (hin : vp_in i n) (hr : gr σ id i.toNatClampNeg = some μ) (hd : decode cc pc = .ok (.aaload, 1)) (h : PS M (pc + 1) lv (.ref μ :: st) σ kn) : PS M pc lv (.int i :: .ref id :: st) σ kn := by
  obtain ⟨p, l, e, R, s, m, args, below, meth, c, V, nL, Q⟩ := M
  intro ls H locs hl hG hS
  obtain ⟨q0, hq⟩ := cell_at (V := V) hi
  rw [ct_r hk (by omega) (by omega)] at hq
  have hr : σ.2.2 id i.toNatClampNeg = some μ := hr
  have k := h ls H locs hl hG hS
  rcases h1 with rfl | rfl
  · refine va_aldq (D := vD V) C.1 C.2.1 C.2.2.2.2.2.2.2.1 hG.1 q0 4 hq rfl hin hd ?_
    rw [hr]; exact k
  · refine va_aldq (D := vD V) C.1 C.2.1 C.2.2.2.2.2.2.2.1 hG.1 q0 5 hq rfl hin hd ?_
    rw [hr]; exact k
theorem P_aldN (C : Cx M cc ret own Ts rm mc ms Qc) {id t n : Nat} {i : Int32} (hk : kd id = (t, n)) (h1 : t = 4 ∨ t = 5) (hi : id ∈ ids (mV M)) (hin : vp_in i n) (hr : gr σ id i.toNatClampNeg = none) (hd : decode cc pc = .ok (.aaload, 1)) (h : PS M (pc + 1) lv (.null :: st) σ kn) : PS M pc lv (.int i :: .ref id :: st) σ kn := by
  obtain ⟨p, l, e, R, s, m, args, below, meth, c, V, nL, Q⟩ := M
  intro ls H locs hl hG hS
  obtain ⟨q0, hq⟩ := cell_at (V := V) hi
  rw [ct_r hk (by omega) (by omega)] at hq
  have hr : σ.2.2 id i.toNatClampNeg = none := hr
  have k := h ls H locs hl hG hS
  rcases h1 with rfl | rfl
  · refine va_aldq (D := vD V) C.1 C.2.1 C.2.2.2.2.2.2.2.1 hG.1 q0 4 hq rfl hin hd ?_
    rw [hr]; exact k
  · refine va_aldq (D := vD V) C.1 C.2.1 C.2.2.2.2.2.2.2.1 hG.1 q0 5 hq rfl hin hd ?_
    rw [hr]; exact k
theorem P_aldT (C : Cx M cc ret own Ts rm mc ms Qc) {id n : Nat} {i : Int32} (hk : kd id = (6, n)) (hi : id ∈ ids (mV M)) (hin : vp_in i n) (hd : decode cc pc = .ok (.aaload, 1)) (h : PS M (pc + 1) lv (.ref (id + 1 + 2 * i.toNatClampNeg) :: st) σ kn) : PS M pc lv (.int i :: .ref id :: st) σ kn := by
  obtain ⟨p, l, e, R, s, m, args, below, meth, c, V, nL, Q⟩ := M
  intro ls H locs hl hG hS
  obtain ⟨q0, hq⟩ := cell_at (V := V) hi
  rw [ct_t hk] at hq
  exact va_aldq (D := vD V) C.1 C.2.1 C.2.2.2.2.2.2.2.1 hG.1 q0 6 hq rfl hin hd (h ls H locs hl hG hS)
theorem P_alen (C : Cx M cc ret own Ts rm mc ms Qc) {id t n : Nat} {v : Int32} (hk : kd id = (t, n)) (ht : t < 7) (hi : id ∈ ids (mV M)) (hv : Int32.ofNat n = v) (hd : decode cc pc = .ok (.arraylength, 1)) (h : PS M (pc + 1) lv (.int v :: st) σ kn) : PS M pc lv (.ref id :: st) σ kn := by
  obtain ⟨p, l, e, R, s, m, args, below, meth, c, V, nL, Q⟩ := M
  intro ls H locs hl hG hS
  obtain ⟨q0, hq⟩ := cell_at (V := V) hi
  obtain ⟨ty, hty⟩ := ty_at V ht
  have hc : ∃ x : _, ct V σ id = .inl (vC V t, n, x) := by
    by_cases h3 : t < 3
    · exact ⟨_, ct_i hk h3⟩
    · by_cases h4 : t = 3
      · subst h4; exact ⟨_, ct_l hk⟩
      · by_cases h6 : t = 6
        · subst h6; exact ⟨_, ct_t hk⟩
        · exact ⟨_, ct_r hk (by omega) (by omega)⟩
  obtain ⟨x, hx⟩ := hc
  rw [hx] at hq
  exact va_alen (D := vD V) C.1 C.2.1 C.2.2.2.2.2.2.2.1 hG.1 q0 t hq hty hv hd (h ls H locs hl hG hS)
theorem P_iret {Qk : Int32 → Sg → Prop} (C : Cx M cc (some .int) own Ts rm mc ms (QI (mV M) Qk)) {x : Int32} (hd : decode cc pc = .ok (.ireturn, 1)) (h : Qk x σ) : PS M pc lv [.int x] σ (mc, ms) := by
  obtain ⟨p, l, e, R, s, m, args, below, meth, c, V, nL, Q⟩ := M
  intro ls H locs hl hG hS
  obtain ⟨hx, hb, hml, hown, hts, hr, hlk, hK, hR, hQ, hw, hX⟩ := C
  have hQ : Q = MQ below (QI V Qk) args s mc ms (vA V) := hQ
  subst hQ
  exact W.iret (v := x) hx hb hr (fun t ht hW => ⟨⟨x, σ, rfl, h, GG_mk ht hG hK hX hS hW⟩, hS.F ht⟩) hS.2.2 hd hlk
theorem P_lret {Qk : Int64 → Sg → Prop} (C : Cx M cc (some .long) own Ts rm mc ms (QL (mV M) Qk)) {x : Int64} (hd : decode cc pc = .ok (.lreturn, 1)) (h : Qk x σ) : PS M pc lv [.long x] σ (mc, ms) := by
  obtain ⟨p, l, e, R, s, m, args, below, meth, c, V, nL, Q⟩ := M
  intro ls H locs hl hG hS
  obtain ⟨hx, hb, hml, hown, hts, hr, hlk, hK, hR, hQ, hw, hX⟩ := C
  have hQ : Q = MQ below (QL V Qk) args s mc ms (vA V) := hQ
  subst hQ
  exact W.lret (v := x) hx hb hr (fun t ht hW => ⟨⟨x, σ, rfl, h, GG_mk ht hG hK hX hS hW⟩, hS.F ht⟩) hS.2.2 hd hlk
theorem P_zret {Qk : Int32 → Sg → Prop} {ty : FieldType} (C : Cx M cc (some ty) own Ts rm mc ms (QI (mV M) Qk)) {x : Int32} (hn : narrow ty (.int x) = .int x) (hd : decode cc pc = .ok (.ireturn, 1)) (h : Qk x σ) : PS M pc lv [.int x] σ (mc, ms) := by
  obtain ⟨p, l, e, R, s, m, args, below, meth, c, V, nL, Q⟩ := M
  intro ls H locs hl hG hS
  obtain ⟨hx, hb, hml, hown, hts, hr, hlk, hK, hR, hQ, hw, hX⟩ := C
  have hQ : Q = MQ below (QI V Qk) args s mc ms (vA V) := hQ
  subst hQ
  exact W.zret (v := x) hx hb hr hn (fun t ht hW => ⟨⟨x, σ, rfl, h, GG_mk ht hG hK hX hS hW⟩, hS.F ht⟩) hS.2.2 hd hlk
theorem P_vret {Qk : Sg → Prop} (C : Cx M cc none own Ts rm mc ms (QV (mV M) Qk)) (hd : decode cc pc = .ok (.return_, 1)) (h : Qk σ) : PS M pc lv [] σ (mc, ms) := by
  obtain ⟨p, l, e, R, s, m, args, below, meth, c, V, nL, Q⟩ := M
  intro ls H locs hl hG hS
  obtain ⟨hx, hb, hml, hown, hts, hr, hlk, hK, hR, hQ, hw, hX⟩ := C
  have hQ : Q = MQ below (QV V Qk) args s mc ms (vA V) := hQ
  subst hQ
  exact W.vret hx hb hr (fun t ht hW => ⟨⟨σ, rfl, h, GG_mk ht hG hK hX hS hW⟩, hS.F ht⟩) hS.2.2 hd hlk
theorem P_aret {Qk : Nat → Sg → Prop} {rt : FieldType} (C : Cx M cc (some rt) own Ts rm mc ms (QR (mV M) Qk)) (hrt : (∃ n, rt = .object n) ∨ ∃ t, rt = .array t) {x : Nat} (hd : decode cc pc = .ok (.areturn, 1)) (h : Qk x σ) : PS M pc lv [.ref x] σ (mc, ms) := by
  obtain ⟨p, l, e, R, s, m, args, below, meth, c, V, nL, Q⟩ := M
  intro ls H locs hl hG hS
  obtain ⟨hx, hb, hml, hown, hts, hr, hlk, hK, hR, hQ, hw, hX⟩ := C
  have hQ : Q = MQ below (QR V Qk) args s mc ms (vA V) := hQ
  subst hQ
  exact W.aret (v := .ref (va V x)) hx hb hr hrt (Or.inr ⟨_, rfl⟩) (fun t ht hW => ⟨⟨(x, σ), va V x, rfl, h, rfl, GG_mk ht hG hK hX hS hW⟩, hS.F ht⟩) hS.2.2 hd hlk
end Rules
theorem lv_args_map (V : Vx) : ∀ (as : List Value) (i : Nat), lv_args i (as.map (cv V)) = (lv_args i as).map (fun q => (q.1, cv V q.2))
  | [], _ => rfl
  | v :: vs, i => by simp only [List.map_cons, lv_args, cv_cat, lv_args_map V vs]
noncomputable def rmz (d : Nat) : Room := { frames := d, cells := 0, slots := 0, locals := 40 * d }
/-- the way in: a method's contract, from its first instruction on -/
theorem Ka_of {l : Launch} {V : Vx} {y : MethodName} {ws ws' : List Cond} {rm : Room} {mc ms : Nat} {cc : ByteArray} {maxL : Nat} {ret : Option FieldType} {own : String} {as : List Value} {σ : Sg} {Qc : Array Value → State → Outcome → State → Prop}
    (hy : plainName y.cls = true) (hw : ws = Cond.code y cc maxL ret :: ws') (ho : y.cls = own) (hlen : (lg_sl (as.map (cv V))).length ≤ maxL)
    (h : ∀ M : Mx, mL M = l → mV M = V → mN M = maxL → Cx M cc ret own ws rm mc ms Qc → PS M 0 (lv_args 0 as) [] σ (0, 0)) : Ka l V y ws rm mc ms as σ Qc := by
  refine Met.ofW (cc := cc) (maxL := maxL) (ret := ret) hy hw ?_
  intro p e s m args below meth c s1 B hml hv
  obtain ⟨rfl, hG, hK, hX⟩ := hv
  have hown : s.vm.findClass own = some m.cls := by rw [← ho]; exact findClass_of_methodNamed B.named
  have hl := lv_entry (as.map (cv V)) (n := maxL) hlen
  rw [lg_entry_eq]
  rw [lv_args_map] at hl
  exact h (p, l, e, rm, s, m, _, below, meth, c, V, maxL, _) rfl rfl rfl ⟨B.exec, B.bytes, hml, hown, atoms_spec (ws := ws) B.pre, B.returns, B.notSynchronized, hK, rfl, rfl, hG.2.2, hX⟩ _ _ _ hl hG va_S.rf
/-- a call's run, in words of the state -/
noncomputable def RS (M : Mx) (pc : Nat) (lv : List (Nat × Value)) (st0 rest : List Value) (σ : Sg) (kn : Nat × Nat) (mc ms : Nat) (Qa : State → Outcome → State → Prop) : Prop := match M with
  | (p, l, e, R, s, m, args, below, meth, c, V, nL, Q) => ∀ (ls : Array Slot) (H : Heap) (locs : List Loc), lv_has ls nL (lv.map (fun q => (q.1, cv V q.2))) → GH V σ H → va_S (vA V) s.heap H locs → va_Run p l e R s m args below meth c H locs kn.1 kn.2 mc ms (F0 m pc ls (st0.map (cv V))) (rest.map (cv V)) Qa (vA V)
section Calls
variable {M : Mx} {cc : ByteArray} {ret : Option FieldType} {own : String} {Ts : List Cond} {rm rc : Room} {mc ms : Nat} {Qc : Array Value → State → Outcome → State → Prop} {pc : Nat} {lv lv' : List (Nat × Value)} {st st0 : List Value} {σ : Sg} {kn : Nat × Nat} {idx n b ci z : Nat} {y : MethodName} {ws : List Cond} {As : List Value} {Cn : String} {T : u_T} {N : Nat} {Qm : Array Value → State → Outcome → State → Prop} {Qa : State → Outcome → State → Prop} {c1 s1 : Nat}
theorem P_ci {Qk : Int32 → Sg → Prop} {a : Array Value} (hr : RS M pc lv st0 st σ kn c1 s1 (QI (mV M) Qk a)) (h : ∀ (r : Int32) (σ' : Sg), Qk r σ' → PS M (pc + 3) lv (.int r :: st) σ' (kn.1 + c1, kn.2 + s1)) : PS M pc lv st0 σ kn := by
  obtain ⟨p, l, e, R, s, m, args, below, meth, c, V, nL, Q⟩ := M
  intro ls H locs hl hG hS
  exact va_calli (hr ls H locs hl hG hS) hS (fun _ _ h => h) (fun _ h => h) (fun r u t H1 locs1 ht hvm hq hB hz hk hS1 => by subst ht; exact h r u hq ls _ locs1 hl hB.1 hS1)
theorem P_cl {Qk : Int64 → Sg → Prop} {a : Array Value} (hr : RS M pc lv st0 st σ kn c1 s1 (QL (mV M) Qk a)) (h : ∀ (r : Int64) (σ' : Sg), Qk r σ' → PS M (pc + 3) lv (.long r :: st) σ' (kn.1 + c1, kn.2 + s1)) : PS M pc lv st0 σ kn := by
  obtain ⟨p, l, e, R, s, m, args, below, meth, c, V, nL, Q⟩ := M
  intro ls H locs hl hG hS
  exact va_calll (hr ls H locs hl hG hS) hS (fun _ _ h => h) (fun _ h => h) (fun r u t H1 locs1 ht hvm hq hB hz hk hS1 => by subst ht; exact h r u hq ls _ locs1 hl hB.1 hS1)
theorem P_cv {Qk : Sg → Prop} {a : Array Value} (hr : RS M pc lv st0 st σ kn c1 s1 (QV (mV M) Qk a)) (h : ∀ (σ' : Sg), Qk σ' → PS M (pc + 3) lv st σ' (kn.1 + c1, kn.2 + s1)) : PS M pc lv st0 σ kn := by
  obtain ⟨p, l, e, R, s, m, args, below, meth, c, V, nL, Q⟩ := M
  intro ls H locs hl hG hS
  exact va_callv (hr ls H locs hl hG hS) hS (fun _ _ h => h) (fun _ h => h) (fun u t H1 locs1 ht hvm hq hB hz hk hS1 => by subst ht; exact h u hq ls _ locs1 hl hB.1 hS1)
theorem P_cr {Qk : Nat → Sg → Prop} {a : Array Value} (hr : RS M pc lv st0 st σ kn c1 s1 (QR (mV M) Qk a)) (h : ∀ (r : Nat) (σ' : Sg), Qk r σ' → PS M (pc + 3) lv (.ref r :: st) σ' (kn.1 + c1, kn.2 + s1)) : PS M pc lv st0 σ kn := by
  obtain ⟨p, l, e, R, s, m, args, below, meth, c, V, nL, Q⟩ := M
  intro ls H locs hl hG hS
  exact va_callr (hr ls H locs hl hG hS) hS (fun _ _ h => h) (fun _ h => h) (fun u ra t H1 locs1 ht hvm hq hB hz hk hS1 => by subst ht; obtain ⟨rfl, hB⟩ := hB; exact h u.1 u.2 hq ls _ locs1 hl hB.1 hS1)
theorem GGblind {V : Vx} {av : List Value} {σ : Sg} : FrameBlind (va_Pc av (fun U => GG V σ U)) := fun a U g mk q => by
  obtain ⟨q0, q1, q2, q3, q4⟩ := q
  exact ⟨q0, q1, va_K.moved (u := U) (U := U.calling g mk a) (Vm.Alike.refl U.vm) q2, q4.1 U _ (Or.inr rfl) (Nat.le_refl _) (fun _ _ _ => rfl) q3, q4⟩
/-- what a call of a method of the object's own kind asks of the tables -/
noncomputable def KV (own : String) (Ts : List Cond) (rm : Room) (idx : Nat) (Cn : String) (y : MethodName) (ws : List Cond) (rc : Room) (n : Nat) : Prop :=
  ∃ (bytes : ByteArray) (maxL : Nat) (rt : Option FieldType) (ws' : List Cond), GoodIn Ts (wsV own idx Cn y ws) ∧ ws = Cond.code y bytes maxL rt :: ws' ∧ (y.cls = Cn ∧ y.cls ≠ "java/lang/invoke/MethodHandle" ∧ y.cls ≠ "java/lang/invoke/VarHandle" ∧ (parseMethodDescriptor y.desc).map (fun d => d.parameters.length) = some n) ∧ (rc.frames + 1 ≤ rm.frames ∧ 8 + (maxL + 11) + rc.locals ≤ rm.locals)
theorem map_stk {V : Vx} {As : List Value} {b : Nat} {st : List Value} : (As.reverse ++ .ref b :: st).map (cv V) = (As.map (cv V)).reverse ++ .ref (va V b) :: st.map (cv V) := by
  rw [List.map_append, List.map_reverse]; rfl
theorem cat_sum {V : Vx} {m : MethodId} {pc : Nat} {ls : Array Slot} {x st : List Value} (h : (st.map fun v => v.category).sum ≤ 8) : 2 * (F0 m pc ls x).monitorRoom + ((st.map (cv V)).map fun v => v.category).sum ≤ 8 := by
  have e : (st.map (cv V)).map (fun v => v.category) = st.map (fun v => v.category) := by rw [List.map_map]; exact List.map_congr_left (fun v _ => cv_cat V v)
  rw [e]
  show 2 * 0 + _ ≤ 8
  omega
theorem R_v (C : Cx M cc ret own Ts rm mc ms Qc) (k : KV own Ts rm idx Cn y ws rc n) (hn : As.length = n) (hk : kd b = (10 + ci, z)) (hcl : vwCl[ci]? = some (Cn, T, N)) (hi : b ∈ ids (mV M)) (hst : (st.map fun v => v.category).sum ≤ 8) (hd : decode cc pc = .ok (.invokevirtual idx, 3)) (hf : kn.1 + rc.cells ≤ rm.cells ∧ kn.2 + rc.slots ≤ rm.slots)
    (hM : Ka (mL M) (mV M) y ws rc rc.cells rc.slots (.ref b :: As) σ Qm) : RS M pc lv (As.reverse ++ .ref b :: st) st σ kn rc.cells rc.slots (Qm ((.ref b :: As).map (cv (mV M))).toArray) := by
  obtain ⟨p, l, e, R, s, m, args, below, meth, c, V, nL, Q⟩ := M
  intro ls H locs hl hG hS
  obtain ⟨hx, hb, hml, hown, hts, hr, hlk, hK, rfl, rfl, hw, hX⟩ := C
  obtain ⟨bytes, maxL, rt, ws', k1, k2, k3, k4⟩ := k
  obtain ⟨q0, hq⟩ := cell_at (V := V) (σ := σ) hi
  rw [ct_o hk] at hq
  rw [map_stk]
  exact va_runV (As := As.map (cv V)) (b := va V b) ⟨hx, hb, hml, hown, hts⟩ hM (cwV n hts k1 k2 rfl rfl k3 k4) ⟨GGblind, va_recv hK hG.1 hcl hq, fun U hU hW => ⟨rfl, GG_mk hU hG hK hX hS hW⟩⟩ rfl (by rw [List.length_map]; exact hn) hl.1 rfl (cat_sum hst) hd hf
/-- a call of a method that the object's kind has from above -/
noncomputable def KU (own : String) (Ts : List Cond) (rm : Room) (idx : Nat) (Cn : String) (y : MethodName) (ws : List Cond) (rc : Room) (n : Nat) : Prop :=
  ∃ (bytes : ByteArray) (maxL : Nat) (rt : Option FieldType) (ws' : List Cond) (owner : String) (x : MethodName), (GoodIn Ts (va_wsU own idx Cn owner x y ws) ∧ y = ⟨owner, x.name, x.desc⟩ ∨ GoodIn Ts (va_wsO own idx Cn owner x y ws) ∧ ∃ (b0 : ByteArray) (m0 : Nat) (r0 : Option FieldType), Cond.code ⟨owner, x.name, x.desc⟩ b0 m0 r0 ∈ Ts) ∧ ws = Cond.code y bytes maxL rt :: ws' ∧ (owner ≠ "java/lang/invoke/MethodHandle" ∧ owner ≠ "java/lang/invoke/VarHandle" ∧ (parseMethodDescriptor x.desc).map (fun d => d.parameters.length) = some n) ∧ (rc.frames + 1 ≤ rm.frames ∧ 8 + (maxL + 11) + rc.locals ≤ rm.locals)
theorem R_u (C : Cx M cc ret own Ts rm mc ms Qc) (k : KU own Ts rm idx Cn y ws rc n) (hn : As.length = n) (hk : kd b = (10 + ci, z)) (hcl : vwCl[ci]? = some (Cn, T, N)) (hi : b ∈ ids (mV M)) (hst : (st.map fun v => v.category).sum ≤ 8) (hd : decode cc pc = .ok (.invokevirtual idx, 3)) (hf : kn.1 + rc.cells ≤ rm.cells ∧ kn.2 + rc.slots ≤ rm.slots)
    (hM : Ka (mL M) (mV M) y ws rc rc.cells rc.slots (.ref b :: As) σ Qm) : RS M pc lv (As.reverse ++ .ref b :: st) st σ kn rc.cells rc.slots (Qm ((.ref b :: As).map (cv (mV M))).toArray) := by
  obtain ⟨p, l, e, R, s, m, args, below, meth, c, V, nL, Q⟩ := M
  intro ls H locs hl hG hS
  obtain ⟨hx, hb, hml, hown, hts, hr, hlk, hK, rfl, rfl, hw, hX⟩ := C
  obtain ⟨bytes, maxL, rt, ws', owner, x, k1, k2, k3, k4⟩ := k
  obtain ⟨q0, hq⟩ := cell_at (V := V) (σ := σ) hi
  rw [ct_o hk] at hq
  rw [map_stk]
  have hcw : va_CU R s args own Cn owner idx x y bytes maxL rt ws rc rc.cells rc.slots n := by
    rcases k1 with ⟨g, e⟩ | ⟨g, b0, m0, r0, e⟩
    · exact va_cwU n hts g k2 rfl rfl e k3 k4
    · exact va_cwO n hts g k2 rfl rfl e k3 k4
  exact va_runU (As := As.map (cv V)) (b := va V b) ⟨hx, hb, hml, hown, hts⟩ hM hcw ⟨GGblind, va_recv hK hG.1 hcl hq, fun U hU hW => ⟨rfl, GG_mk hU hG hK hX hS hW⟩⟩ rfl (by rw [List.length_map]; exact hn) hl.1 rfl (cat_sum hst) hd hf
/-- a call of a method above, of the same object -/
noncomputable def KSU (own : String) (Ts : List Cond) (rm : Room) (idx : Nat) (y : MethodName) (ws : List Cond) (rc : Room) (n : Nat) : Prop :=
  ∃ (bytes : ByteArray) (maxL : Nat) (rt : Option FieldType) (ws' : List Cond), GoodIn Ts (va_wsSU own idx y ws) ∧ ws = Cond.code y bytes maxL rt :: ws' ∧ (y.name ≠ "<init>" ∧ (parseMethodDescriptor y.desc).map (fun d => d.parameters.length) = some n) ∧ (rc.frames + 1 ≤ rm.frames ∧ 8 + (maxL + 11) + rc.locals ≤ rm.locals)
theorem R_su (C : Cx M cc ret own Ts rm mc ms Qc) (k : KSU own Ts rm idx y ws rc n) (hn : As.length = n) (hk : kd b = (10 + ci, z)) (hcl : vwCl[ci]? = some (Cn, T, N)) (hi : b ∈ ids (mV M)) (hst : (st.map fun v => v.category).sum ≤ 8) (hd : decode cc pc = .ok (.invokespecial idx, 3)) (hf : kn.1 + rc.cells ≤ rm.cells ∧ kn.2 + rc.slots ≤ rm.slots)
    (hM : Ka (mL M) (mV M) y ws rc rc.cells rc.slots (.ref b :: As) σ Qm) : RS M pc lv (As.reverse ++ .ref b :: st) st σ kn rc.cells rc.slots (Qm ((.ref b :: As).map (cv (mV M))).toArray) := by
  obtain ⟨p, l, e, R, s, m, args, below, meth, c, V, nL, Q⟩ := M
  intro ls H locs hl hG hS
  obtain ⟨hx, hb, hml, hown, hts, hr, hlk, hK, rfl, rfl, hw, hX⟩ := C
  obtain ⟨bytes, maxL, rt, ws', k1, k2, k3, k4⟩ := k
  obtain ⟨q0, hq⟩ := cell_at (V := V) (σ := σ) hi
  rw [ct_o hk] at hq
  rw [map_stk]
  exact va_runSU (As := As.map (cv V)) (b := va V b) (hK.1 ci _ hcl).2 ⟨hx, hb, hml, hown, hts⟩ hM (va_cwSU n hts k1 k2 rfl rfl k3 k4) ⟨GGblind, va_recv hK hG.1 hcl hq, fun U hU hW => ⟨rfl, GG_mk hU hG hK hX hS hW⟩⟩ rfl (by rw [List.length_map]; exact hn) hl.1 rfl (cat_sum hst) hd hf
/-- a call of a function of a kind -/
noncomputable def KF (own : String) (Ts : List Cond) (rm : Room) (idx : Nat) (y : MethodName) (ws : List Cond) (rc : Room) (n : Nat) : Prop :=
  ∃ (bytes : ByteArray) (maxL : Nat) (rt : Option FieldType) (ws' : List Cond), GoodIn Ts (va_wsS own idx y ws) ∧ ws = Cond.code y bytes maxL rt :: ws' ∧ (y.cls ≠ "java/lang/invoke/MethodHandle" ∧ y.cls ≠ "java/lang/invoke/VarHandle" ∧ (parseMethodDescriptor y.desc).map (fun d => d.parameters.length) = some n) ∧ (rc.frames + 1 ≤ rm.frames ∧ 8 + (maxL + 11) + rc.locals ≤ rm.locals)
theorem R_f (C : Cx M cc ret own Ts rm mc ms Qc) (k : KF own Ts rm idx y ws rc n) (hn : As.length = n) (hst : (st.map fun v => v.category).sum ≤ 8) (hd : decode cc pc = .ok (.invokestatic idx, 3)) (hf : kn.1 + rc.cells ≤ rm.cells ∧ kn.2 + rc.slots ≤ rm.slots)
    (hM : Ka (mL M) (mV M) y ws rc rc.cells rc.slots As σ Qm) : RS M pc lv (As.reverse ++ st) st σ kn rc.cells rc.slots (Qm (As.map (cv (mV M))).toArray) := by
  obtain ⟨p, l, e, R, s, m, args, below, meth, c, V, nL, Q⟩ := M
  intro ls H locs hl hG hS
  obtain ⟨hx, hb, hml, hown, hts, hr, hlk, hK, rfl, rfl, hw, hX⟩ := C
  obtain ⟨bytes, maxL, rt, ws', k1, k2, k3, k4⟩ := k
  have e : (As.reverse ++ st).map (cv V) = (As.map (cv V)).reverse ++ st.map (cv V) := by rw [List.map_append, List.map_reverse]
  rw [e]
  exact va_runS (As := As.map (cv V)) ⟨hx, hb, hml, hown, hts⟩ hM (va_cwS n hts k1 k2 rfl rfl k3 k4) ⟨GGblind, fun U hU hW => ⟨rfl, GG_mk hU hG hK hX hS hW⟩⟩ rfl (by rw [List.length_map]; exact hn) hl.1 rfl (cat_sum hst) hd hf
/-- the greater, the less of two numbers -/
noncomputable def KM (own : String) (Ts : List Cond) (idx : Nat) (y : MethodName) (b : ByteArray) : Prop := Cond.methodLink own idx y ∈ Ts ∧ Cond.static y ∈ Ts ∧ Cond.initialized "java/lang/Math" ∈ Ts ∧ Cond.code y b 2 (some .int) ∈ Ts
theorem P_max (C : Cx M cc ret own Ts rm mc ms Qc) {x v : Int32} (k : KM own Ts idx Lib.Math.max.name Lib.Math.max.code) (hR : 1 ≤ rm.frames) (hL : (st.map fun v => v.category).sum + 13 ≤ rm.locals) (hf : kn.1 ≤ rm.cells ∧ kn.2 ≤ rm.slots) (hd : decode cc pc = .ok (.invokestatic idx, 3)) (h : PS M (pc + 3) lv (.int (if x < v then v else x) :: st) σ kn) : PS M pc lv (.int v :: .int x :: st) σ kn := by
  obtain ⟨p, l, e, R, s, m, args, below, meth, c, V, nL, Q⟩ := M
  intro ls H locs hl hG hS
  obtain ⟨hx, hb, hml, hown, hts, hr, hlk, hK, rfl, rfl, hw, hX⟩ := C
  obtain ⟨k1, k2, k3, k4⟩ := k
  have e : (st.map (cv V)).map (fun v => v.category) = st.map (fun v => v.category) := by rw [List.map_map]; exact List.map_congr_left (fun v _ => cv_cat V v)
  exact va_mmax hx hb (hml.trans hl.1.symm) hown (hts _ k1) (hts _ k2) (hts _ k3) (hts _ k4) hR (by rw [e]; exact hL) hf.1 hf.2 hd (h ls H locs hl hG hS)
theorem P_min (C : Cx M cc ret own Ts rm mc ms Qc) {x v : Int32} (k : KM own Ts idx Lib.Math.min.name Lib.Math.min.code) (hR : 1 ≤ rm.frames) (hL : (st.map fun v => v.category).sum + 13 ≤ rm.locals) (hf : kn.1 ≤ rm.cells ∧ kn.2 ≤ rm.slots) (hd : decode cc pc = .ok (.invokestatic idx, 3)) (h : PS M (pc + 3) lv (.int (if v < x then v else x) :: st) σ kn) : PS M pc lv (.int v :: .int x :: st) σ kn := by
  obtain ⟨p, l, e, R, s, m, args, below, meth, c, V, nL, Q⟩ := M
  intro ls H locs hl hG hS
  obtain ⟨hx, hb, hml, hown, hts, hr, hlk, hK, rfl, rfl, hw, hX⟩ := C
  obtain ⟨k1, k2, k3, k4⟩ := k
  have e : (st.map (cv V)).map (fun v => v.category) = st.map (fun v => v.category) := by rw [List.map_map]; exact List.map_congr_left (fun v _ => cv_cat V v)
  exact va_mmin hx hb (hml.trans hl.1.symm) hown (hts _ k1) (hts _ k2) (hts _ k3) (hts _ k4) hR (by rw [e]; exact hL) hf.1 hf.2 hd (h ls H locs hl hG hS)
theorem P_nm (h : ∀ σ' : Sg, σ' = σ → PS M pc lv st σ' kn) : PS M pc lv st σ kn := h σ rfl
theorem P_nmi {x : Int32} (h : ∀ v : Int32, v = x → PS M pc lv (.int v :: st) σ kn) : PS M pc lv (.int x :: st) σ kn := h x rfl
end Calls

/-! the three courses, the rows of numbers, the tapes -/
noncomputable abbrev isC (c : Nat) : Prop := c = 1 ∨ c = 17 ∨ c = 33
noncomputable abbrev isN (n : Nat) : Prop := n = 9 ∨ n = 11 ∨ n = 13 ∨ n = 25 ∨ n = 27 ∨ n = 29 ∨ n = 41 ∨ n = 43 ∨ n = 45 ∨ n = 64
noncomputable abbrev isT (t : Nat) : Prop := t = 52 ∨ t = 54 ∨ t = 56 ∨ t = 58 ∨ t = 60 ∨ t = 62
noncomputable abbrev isMc (ci : Nat) : Prop := ci = 0 ∨ ci = 3 ∨ ci = 4 ∨ ci = 6 ∨ ci = 7 ∨ ci = 8 ∨ ci = 10
/-- how many a row of numbers keeps -/
noncomputable def nl (n : Nat) : Nat := (kd (n + 1)).2
theorem kdC_0 {c : Nat} (h : isC c) : kd (c) = (11, 0) := by rcases h with rfl | rfl | rfl <;> decide +kernel
theorem fxC_0 {c : Nat} (h : isC c) : c ∈ fixL := by rcases h with rfl | rfl | rfl <;> decide +kernel
theorem kdC_1 {c : Nat} (h : isC c) : kd (c + 1) = (4, 6) := by rcases h with rfl | rfl | rfl <;> decide +kernel
theorem fxC_1 {c : Nat} (h : isC c) : c + 1 ∈ fixL := by rcases h with rfl | rfl | rfl <;> decide +kernel
theorem kdC_2 {c : Nat} (h : isC c) : kd (c + 2) = (0, 6) := by rcases h with rfl | rfl | rfl <;> decide +kernel
theorem fxC_2 {c : Nat} (h : isC c) : c + 2 ∈ fixL := by rcases h with rfl | rfl | rfl <;> decide +kernel
theorem kdC_3 {c : Nat} (h : isC c) : kd (c + 3) = (0, 6) := by rcases h with rfl | rfl | rfl <;> decide +kernel
theorem fxC_3 {c : Nat} (h : isC c) : c + 3 ∈ fixL := by rcases h with rfl | rfl | rfl <;> decide +kernel
theorem kdC_4 {c : Nat} (h : isC c) : kd (c + 4) = (0, 6) := by rcases h with rfl | rfl | rfl <;> decide +kernel
theorem fxC_4 {c : Nat} (h : isC c) : c + 4 ∈ fixL := by rcases h with rfl | rfl | rfl <;> decide +kernel
theorem kdC_5 {c : Nat} (h : isC c) : kd (c + 5) = (0, 6) := by rcases h with rfl | rfl | rfl <;> decide +kernel
theorem fxC_5 {c : Nat} (h : isC c) : c + 5 ∈ fixL := by rcases h with rfl | rfl | rfl <;> decide +kernel
theorem kdC_6 {c : Nat} (h : isC c) : kd (c + 6) = (0, 6) := by rcases h with rfl | rfl | rfl <;> decide +kernel
theorem fxC_6 {c : Nat} (h : isC c) : c + 6 ∈ fixL := by rcases h with rfl | rfl | rfl <;> decide +kernel
theorem kdC_7 {c : Nat} (h : isC c) : kd (c + 7) = (0, 24) := by rcases h with rfl | rfl | rfl <;> decide +kernel
theorem fxC_7 {c : Nat} (h : isC c) : c + 7 ∈ fixL := by rcases h with rfl | rfl | rfl <;> decide +kernel
theorem kdC_14 {c : Nat} (h : isC c) : kd (c + 14) = (0, 6) := by rcases h with rfl | rfl | rfl <;> decide +kernel
theorem fxC_14 {c : Nat} (h : isC c) : c + 14 ∈ fixL := by rcases h with rfl | rfl | rfl <;> decide +kernel
theorem kdC_15 {c : Nat} (h : isC c) : kd (c + 15) = (0, 6) := by rcases h with rfl | rfl | rfl <;> decide +kernel
theorem fxC_15 {c : Nat} (h : isC c) : c + 15 ∈ fixL := by rcases h with rfl | rfl | rfl <;> decide +kernel
theorem isN_C8 {c : Nat} (h : isC c) : isN (c + 8) := by rcases h with rfl | rfl | rfl <;> decide
theorem isN_C10 {c : Nat} (h : isC c) : isN (c + 10) := by rcases h with rfl | rfl | rfl <;> decide
theorem isN_C12 {c : Nat} (h : isC c) : isN (c + 12) := by rcases h with rfl | rfl | rfl <;> decide
theorem kdN_0 {n : Nat} (h : isN n) : kd n = (15, 0) := by rcases h with rfl | rfl | rfl | rfl | rfl | rfl | rfl | rfl | rfl | rfl <;> decide +kernel
theorem kdN_1 {n : Nat} (h : isN n) : kd (n + 1) = (0, nl n) := by rcases h with rfl | rfl | rfl | rfl | rfl | rfl | rfl | rfl | rfl | rfl <;> decide +kernel
theorem fxN_0 {n : Nat} (h : isN n) : n ∈ fixL := by rcases h with rfl | rfl | rfl | rfl | rfl | rfl | rfl | rfl | rfl | rfl <;> decide +kernel
theorem fxN_1 {n : Nat} (h : isN n) : n + 1 ∈ fixL := by rcases h with rfl | rfl | rfl | rfl | rfl | rfl | rfl | rfl | rfl | rfl <;> decide +kernel
theorem kdT_0 {t : Nat} (h : isT t) : kd t = (19, 0) := by rcases h with rfl | rfl | rfl | rfl | rfl | rfl <;> decide +kernel
theorem kdT_1 {t : Nat} (h : isT t) : kd (t + 1) = (3, 60) := by rcases h with rfl | rfl | rfl | rfl | rfl | rfl <;> decide +kernel
theorem fxT_0 {t : Nat} (h : isT t) : t ∈ fixL := by rcases h with rfl | rfl | rfl | rfl | rfl | rfl <;> decide +kernel
theorem fxT_1 {t : Nat} (h : isT t) : t + 1 ∈ fixL := by rcases h with rfl | rfl | rfl | rfl | rfl | rfl <;> decide +kernel
theorem isT_of {i : Int32} (h : vp_in i 6) : isT (52 + 2 * i.toNatClampNeg) := by
  have hlt : i.toNatClampNeg < 6 := Nat.not_le.mp fun q => h (Or.inr q)
  generalize i.toNatClampNeg = j at hlt ⊢
  unfold isT
  omega
/-! the fields -/
theorem kdF_lo : ∀ f, f < 175 → kd f = (12, 0) → f = 69 := by decide +kernel
theorem kdF {f : Nat} (h : kd f = (12, 0)) : f = 69 ∨ ∃ k, k < 200 ∧ f = 1000 + 5 * k := by
  by_cases h1 : f < 175
  · exact Or.inl (kdF_lo f h1 h)
  · by_cases h2 : f < 1000
    · simp [kd, h1, h2] at h
    · by_cases h3 : f < 2000
      · simp only [kd, h1, h2, h3, if_true, if_false, fkd] at h
        refine Or.inr ⟨(f - 1000) / 5, by omega, ?_⟩
        have : (f - 1000) % 5 = 0 := by
          by_cases e : (f - 1000) % 5 = 0
          · exact e
          · rw [if_neg e] at h
            split at h <;> simp at h
        omega
      · simp only [kd, h1, h2, h3, if_false] at h
        split at h
        · next q =>
          have e : f % 16 = 2 := by simp at h; omega
          rw [e] at q
          exact absurd q (by decide +kernel)
        · simp at h
theorem kdF_1 {f : Nat} (h : kd f = (12, 0)) : kd (f + 1) = (0, 100) := by
  rcases kdF h with rfl | ⟨k, hk, rfl⟩
  · decide +kernel
  · have h1 : ¬ 1000 + 5 * k + 1 < 175 := by omega
    have h2 : ¬ 1000 + 5 * k + 1 < 1000 := by omega
    have h3 : 1000 + 5 * k + 1 < 2000 := by omega
    have h4 : (1000 + 5 * k + 1 - 1000) % 5 = 1 := by omega
    simp only [kd, h1, h2, h3, if_true, if_false, h4]
    rfl
theorem kdF_2 {f : Nat} (h : kd f = (12, 0)) : kd (f + 2) = (0, 10) := by
  rcases kdF h with rfl | ⟨k, hk, rfl⟩
  · decide +kernel
  · have h1 : ¬ 1000 + 5 * k + 2 < 175 := by omega
    have h2 : ¬ 1000 + 5 * k + 2 < 1000 := by omega
    have h3 : 1000 + 5 * k + 2 < 2000 := by omega
    have h4 : (1000 + 5 * k + 2 - 1000) % 5 = 2 := by omega
    simp only [kd, h1, h2, h3, if_true, if_false, h4]
    rfl
theorem kdF_3 {f : Nat} (h : kd f = (12, 0)) : kd (f + 3) = (0, 10) := by
  rcases kdF h with rfl | ⟨k, hk, rfl⟩
  · decide +kernel
  · have h1 : ¬ 1000 + 5 * k + 3 < 175 := by omega
    have h2 : ¬ 1000 + 5 * k + 3 < 1000 := by omega
    have h3 : 1000 + 5 * k + 3 < 2000 := by omega
    have h4 : (1000 + 5 * k + 3 - 1000) % 5 = 3 := by omega
    simp only [kd, h1, h2, h3, if_true, if_false, h4]
    rfl
theorem kdF_4 {f : Nat} (h : kd f = (12, 0)) : kd (f + 4) = (0, 10) := by
  rcases kdF h with rfl | ⟨k, hk, rfl⟩
  · decide +kernel
  · have h1 : ¬ 1000 + 5 * k + 4 < 175 := by omega
    have h2 : ¬ 1000 + 5 * k + 4 < 1000 := by omega
    have h3 : 1000 + 5 * k + 4 < 2000 := by omega
    have h4 : (1000 + 5 * k + 4 - 1000) % 5 = 4 := by omega
    simp only [kd, h1, h2, h3, if_true, if_false, h4]
    rfl
section Rules2
variable {M : Mx} {cc : ByteArray} {ret : Option FieldType} {own : String} {Ts : List Cond} {rm : Room} {mc ms : Nat} {Qc : Array Value → State → Outcome → State → Prop} {pc : Nat} {lv lv' : List (Nat × Value)} {st : List Value} {σ : Sg} {kn : Nat × Nat}
theorem lvF_1 (C : Cx M cc ret own Ts rm mc ms Qc) {f : Nat} (hf : kd f = (12, 0)) (hl : f ∈ ids (mV M)) : f + 1 ∈ ids (mV M) := by
  obtain ⟨p, l, e, R, s, m, args, below, meth, c, V, nL, Q⟩ := M
  have h := C.2.2.2.2.2.2.2.2.2.2.1 f hl hf
  exact h.1
theorem lvF_2 (C : Cx M cc ret own Ts rm mc ms Qc) {f : Nat} (hf : kd f = (12, 0)) (hl : f ∈ ids (mV M)) : f + 2 ∈ ids (mV M) := by
  obtain ⟨p, l, e, R, s, m, args, below, meth, c, V, nL, Q⟩ := M
  have h := C.2.2.2.2.2.2.2.2.2.2.1 f hl hf
  exact h.2.1
theorem lvF_3 (C : Cx M cc ret own Ts rm mc ms Qc) {f : Nat} (hf : kd f = (12, 0)) (hl : f ∈ ids (mV M)) : f + 3 ∈ ids (mV M) := by
  obtain ⟨p, l, e, R, s, m, args, below, meth, c, V, nL, Q⟩ := M
  have h := C.2.2.2.2.2.2.2.2.2.2.1 f hl hf
  exact h.2.2.1
theorem lvF_4 (C : Cx M cc ret own Ts rm mc ms Qc) {f : Nat} (hf : kd f = (12, 0)) (hl : f ∈ ids (mV M)) : f + 4 ∈ ids (mV M) := by
  obtain ⟨p, l, e, R, s, m, args, below, meth, c, V, nL, Q⟩ := M
  have h := C.2.2.2.2.2.2.2.2.2.2.1 f hl hf
  exact h.2.2.2
theorem mcs_of {ci : Nat} (h : isMc ci) : ci ∈ mcs := by rcases h with rfl | rfl | rfl | rfl | rfl | rfl | rfl <;> decide
/-- the kinds under the first have its three numbers, and no other -/
theorem mcT {ci : Nat} (h : isMc ci) : ∃ (Cn : String) (T : u_T), vwCl[ci]? = some (Cn, T, 3) ∧ mnm ci = Cn ∧ (∀ k, k < 3 → T k = TX4 k) ∧ tplT.getD ci [] = [0, 0, 0] := by
  rcases h with rfl | rfl | rfl | rfl | rfl | rfl | rfl
  all_goals exact ⟨_, _, rfl, rfl, by decide +kernel, rfl⟩
theorem P_getM (C : Cx M cc ret own Ts rm mc ms Qc) {idx cj ci k n id : Nat} {rn : String} (hf : FA own Ts idx cj k rn) (hj : isMc cj) (hm : isMc ci) (hk : kd id = (10 + ci, n)) (hi : id ∈ ids (mV M)) (hd : decode cc pc = .ok (.getfield idx, 3)) (h : PS M (pc + 3) lv (.int (gi σ id k) :: st) σ kn) : PS M pc lv (.ref id :: st) σ kn := by
  obtain ⟨p, l, e, R, s, m, args, below, meth, c, V, nL, Q⟩ := M
  intro ls H locs hl hG hS
  obtain ⟨q0, hq⟩ := cell_at (V := V) (σ := σ) hi
  rw [ct_o hk] at hq
  obtain ⟨Cn, T, hcl, -, hT, htp⟩ := mcT hm
  obtain ⟨Cj, Tj, hclj, -, hTj, -⟩ := mcT hj
  unfold FA at hf
  rw [hclj] at hf
  obtain ⟨f1, f2, f3, f4⟩ := hf
  have hts := C.2.2.2.2.1
  have hK := C.2.2.2.2.2.2.2.1
  obtain ⟨r, h1, cell, q1, q2, q3, q4⟩ := hG.1 q0 _ hq
  have hr : r = (Cn, T, 3) := Option.some.inj (h1.symm.trans hcl)
  subst hr
  obtain ⟨hSj, hfc, kC, hkC, hkind⟩ := hK.1 cj _ hclj
  obtain ⟨hSi, -⟩ := hK.1 ci _ hcl
  have e1 : T k = Tj k := (hT k f1).trans (hTj k f1).symm
  obtain ⟨cf, kf, fi, f, hi1, hsl⟩ := hSi k f1
  have hi1 : s.fieldFound? (T k).1 (T k).2.1 (T k).2.2.1 = some (cf, kf, fi, f) := hi1
  rw [e1] at hi1
  have hsame : s.fieldFound? rn (Tj k).2.1 (Tj k).2.2.1 = some (cf, kf, fi, f) := by
    rcases f4 with f4 | f4
    · rw [f4]; exact hi1
    · exact u_same (hts _ f4) _ hi1
  refine W.getf C.1 C.2.1 C.2.2.2.1 (hts _ f3) hsame (u_facts hfc hkC (u_lays hts f2 f1) hi1).1 q1 (by rw [q3]; exact fun h => by cases h) (v := .int (gi σ id k)) ?_ rfl rfl hd (h ls H locs hl hG hS)
  rw [hsl, q4 k f1]
  have hc0 : tp ci k = some 0 := by
    unfold tp; rw [htp]
    match k, f1 with
    | 0, _ => rfl
    | 1, _ => rfl
    | 2, _ => rfl
  simp only [vp_V, List.getD_eq_getElem?_getD, flds_at hc0]
  rfl
theorem sub_one (x : Int32) : x + Int32.ofInt (-1) = x - 1 := by rw [Int32.sub_eq_add_neg]; rfl
noncomputable def jmax (x y : Int32) : Int32 := if x < y then y else x
noncomputable def jmin (x y : Int32) : Int32 := if y < x then y else x
end Rules2

