/-! the law's words are the tables' words, by their places -/
theorem in_r {big : List Cond} (ws : List Cond) (ps : List Nat) (hp : ws = ps.filterMap (fun i => big[i]?)) : ∀ w ∈ ws, w ∈ big := by
  intro w hw
  rw [hp] at hw
  obtain ⟨i, -, hi⟩ := List.mem_filterMap.mp hw
  exact List.mem_of_getElem? hi
theorem in_app {a b T : List Cond} (ha : ∀ w ∈ a, w ∈ T) (hb : ∀ w ∈ b, w ∈ T) : ∀ w ∈ a ++ b, w ∈ T := fun w h => (List.mem_append.mp h).elim (ha w) (hb w)
set_option maxRecDepth 20000 in
theorem wsL_m1 : ∀ w ∈ wsL_law0_r1, w ∈ lw_tbl := in_r wsL_law0_r1 [78, 79, 57, 960, 961, 61, 1078, 80, 81, 82, 83, 84, 85, 86, 87, 58, 164, 165, 166, 153, 154, 60, 168, 161] (by decide +kernel)
set_option maxRecDepth 20000 in
theorem wsL_m2 : ∀ w ∈ wsL_law0_r2, w ∈ lw_tbl := in_r wsL_law0_r2 [169, 162, 170, 88, 89, 90, 91, 92, 113, 112, 115, 116, 118, 120, 122, 94, 59, 130, 95, 96, 97, 98, 99, 155] (by decide +kernel)
set_option maxRecDepth 20000 in
theorem wsL_m3 : ∀ w ∈ wsL_law0_r3, w ∈ lw_tbl := in_r wsL_law0_r3 [156, 157, 158, 962, 963, 964, 965, 966, 967, 968, 969, 970, 975, 976, 977, 978, 979, 980, 981, 982, 984, 989, 990, 991] (by decide +kernel)
set_option maxRecDepth 20000 in
theorem wsL_m4 : ∀ w ∈ wsL_law0_r4, w ∈ lw_tbl := in_r wsL_law0_r4 [992, 993, 1079, 998, 1002, 983, 186, 187, 188, 189, 761, 190, 192, 0, 193, 194, 195, 196, 197, 199, 1, 200, 201, 203] (by decide +kernel)
set_option maxRecDepth 20000 in
theorem wsL_m5 : ∀ w ∈ wsL_law0_r5, w ∈ lw_tbl := in_r wsL_law0_r5 [2, 204, 205, 206, 207, 208, 209, 210, 70, 211, 762, 212, 213, 214, 215, 216, 217, 218, 219, 220, 221, 222, 223, 224] (by decide +kernel)
set_option maxRecDepth 20000 in
theorem wsL_m6 : ∀ w ∈ wsL_law0_r6, w ∈ lw_tbl := in_r wsL_law0_r6 [225, 226, 227, 228, 229, 230, 231, 124, 126, 128, 232, 233, 234, 235, 236, 237, 238, 239, 240, 241, 242, 244, 245, 246] (by decide +kernel)
set_option maxRecDepth 20000 in
theorem wsL_m7 : ∀ w ∈ wsL_law0_r7, w ∈ lw_tbl := in_r wsL_law0_r7 [247, 248, 249, 250, 251, 252, 253, 254, 255, 257, 258, 62, 265, 266, 63, 273, 274, 64, 281, 282, 65, 289, 290, 66] (by decide +kernel)
set_option maxRecDepth 20000 in
theorem wsL_m8 : ∀ w ∈ wsL_law0_r8, w ∈ lw_tbl := in_r wsL_law0_r8 [297, 298, 67, 256, 259, 260, 261, 262, 267, 268, 269, 270, 275, 276, 277, 278, 283, 284, 285, 286, 291, 292, 293, 294] (by decide +kernel)
set_option maxRecDepth 20000 in
theorem wsL_m9 : ∀ w ∈ wsL_law0_r9, w ∈ lw_tbl := in_r wsL_law0_r9 [299, 300, 301, 302, 305, 306, 307, 308, 309, 310, 311, 312, 337, 310, 313, 311, 314, 315, 316, 317, 280, 318, 319, 320] (by decide +kernel)
set_option maxRecDepth 20000 in
theorem wsL_m10 : ∀ w ∈ wsL_law0_r10, w ∈ lw_tbl := in_r wsL_law0_r10 [321, 322, 323, 102, 103, 324, 288, 325, 326, 327, 328, 1493, 272, 329, 330, 100, 101, 331, 332, 333, 334, 335, 336, 304] (by decide +kernel)
set_option maxRecDepth 20000 in
theorem wsL_m11 : ∀ w ∈ wsL_law0_r11, w ∈ lw_tbl := in_r wsL_law0_r11 [338, 339, 340, 357, 338, 341, 342, 343, 344, 339, 345, 346, 347, 348, 1494, 349, 350, 351, 352, 353, 354, 296, 355, 356] (by decide +kernel)
set_option maxRecDepth 20000 in
theorem wsL_m12 : ∀ w ∈ wsL_law0_r12, w ∈ lw_tbl := in_r wsL_law0_r12 [358, 359, 360, 361, 362, 363, 364, 366, 367, 368, 370, 372, 373, 374, 375, 376, 377, 378, 379, 380, 381, 382, 383, 384] (by decide +kernel)
set_option maxRecDepth 20000 in
theorem wsL_m13 : ∀ w ∈ wsL_law0_r13, w ∈ lw_tbl := in_r wsL_law0_r13 [385, 386, 387, 388, 389, 390, 391, 392, 393, 394, 395, 400, 401, 402, 403, 404, 405, 406, 407, 408, 409, 410, 411, 412] (by decide +kernel)
set_option maxRecDepth 20000 in
theorem wsL_m14 : ∀ w ∈ wsL_law0_r14, w ∈ lw_tbl := in_r wsL_law0_r14 [413, 414, 415, 416, 68, 417, 1084, 1085, 1086, 1087, 985, 986, 987, 988, 1088, 1090, 14, 1091, 1092, 1093, 1094, 1095, 1096, 1098] (by decide +kernel)
set_option maxRecDepth 20000 in
theorem wsL_m15 : ∀ w ∈ wsL_law0_r15, w ∈ lw_tbl := in_r wsL_law0_r15 [15, 1099, 1100, 1102, 16, 1103, 1104, 1105, 1106, 1107, 1109, 17, 1110, 1111, 1113, 18, 1114, 1115, 1116, 1117, 1119, 19, 1120, 997] (by decide +kernel)
set_option maxRecDepth 20000 in
theorem wsL_m16 : ∀ w ∈ wsL_law0_r16, w ∈ lw_tbl := in_r wsL_law0_r16 [996, 995, 971, 972, 973, 974, 1121, 1123, 20, 1124, 1125, 1127, 21, 1128, 1129, 1131, 22, 1132, 1137, 1133, 1134, 1135, 1136, 1138] (by decide +kernel)
set_option maxRecDepth 20000 in
theorem wsL_m17 : ∀ w ∈ wsL_law0_r17, w ∈ lw_tbl := in_r wsL_law0_r17 [1140, 23, 1141, 1142, 1144, 24, 1145, 1146, 1147, 1148, 1149, 1150, 1151, 1152, 1154, 25, 1155, 1156, 1158, 26, 1159, 1160, 1162, 27] (by decide +kernel)
