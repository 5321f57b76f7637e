theorem am_subg {ws : List Cond} (ps : List Nat) (hp : ws = ps.filterMap (fun i => lw_tbl[i]?)) (hg : ws.all goodWord = true) : ∀ w ∈ ws, w ∈ lw_g := by
  intro w hw
  have h1 := List.all_eq_true.mp hg w hw
  rw [hp] at hw
  obtain ⟨i, -, hi⟩ := List.mem_filterMap.mp hw
  exact am_mem i hi h1
theorem cl_0 : am_cls 0 RX0 TX0 11 tyX0 := ⟨by decide, rfl, am_subg [315, 317, 319, 321, 323, 325, 327, 329, 331, 333, 335] (by decide +kernel) (by decide +kernel), tyX0_ok, nmX0, rfl⟩
theorem cl_1 : am_cls 1 RX1 TX1 1 tyX1 := ⟨by decide, rfl, am_subg [183] (by decide +kernel) (by decide +kernel), tyX1_ok, nmX1, rfl⟩
theorem cl_2 : am_cls 2 RX2 TX2 3 tyX2 := ⟨by decide, rfl, am_subg [216, 218, 220] (by decide +kernel) (by decide +kernel), tyX2_ok, nmX2, rfl⟩
theorem cl_3 : am_cls 3 RX3 TX3 9 tyX3 := ⟨by decide, rfl, am_subg [355, 357, 359, 361, 363, 365, 367, 369, 371] (by decide +kernel) (by decide +kernel), tyX3_ok, nmX3, rfl⟩
theorem cl_4 : am_cls 4 RX4 TX4 2 tyX4 := ⟨by decide, rfl, am_subg [382, 384] (by decide +kernel) (by decide +kernel), tyX4_ok, nmX4, rfl⟩
theorem cl_5 : am_cls 5 RX5 TX5 5 tyX5 := ⟨by decide, rfl, am_subg [260, 262, 264, 266, 268] (by decide +kernel) (by decide +kernel), tyX5_ok, nmX5, rfl⟩
theorem cl_6 : am_cls 6 RX6 TX6 6 tyX6 := ⟨by decide, rfl, am_subg [236, 238, 240, 242, 244, 246] (by decide +kernel) (by decide +kernel), tyX6_ok, nmX6, rfl⟩
theorem cl_7 : am_cls 7 RX7 TX7 4 tyX7 := ⟨by decide, rfl, am_subg [167, 169, 171, 173] (by decide +kernel) (by decide +kernel), tyX7_ok, nmX7, rfl⟩
theorem cl_8 : am_cls 8 RX8 TX8 4 tyX8 := ⟨by decide, rfl, am_subg [196, 198, 200, 202] (by decide +kernel) (by decide +kernel), tyX8_ok, nmX8, rfl⟩
theorem cl_9 : am_cls 9 RX9 TX9 2 tyX9 := ⟨by decide, rfl, am_subg [146, 148] (by decide +kernel) (by decide +kernel), tyX9_ok, nmX9, rfl⟩
theorem cl_10 : am_cls 10 RX10 TX10 15 tyX10 := ⟨by decide, rfl, am_subg [402, 404, 406, 408, 410, 412, 414, 416, 418, 420, 422, 424, 426, 428, 430] (by decide +kernel) (by decide +kernel), tyX10_ok, nmX10, rfl⟩
theorem cl_11 : am_cls 11 RX11 TX11 62 tyX11 := ⟨by decide, rfl, am_subg [1214, 1216, 1218, 1220, 1222, 1224, 1226, 1228, 1230, 1232, 1234, 1236, 1238, 1240, 1242, 1244, 1246, 1248, 1250, 1252, 1254, 1256, 1258, 1260, 1262, 1264, 1266, 1268, 1270, 1272, 1274, 1276, 1278, 1280, 1282, 1284, 1286, 1288, 1290, 1292, 1294, 1296, 1298, 1300, 1302, 1304, 1306, 1308, 1310, 1312, 1314, 1316, 1318, 1320, 1322, 1324, 1326, 1328, 1330, 1332, 1334, 1336] (by decide +kernel) (by decide +kernel), tyX11_ok, nmX11, rfl⟩
theorem fl_X10_10 : am_fl RX10 10 10 0 := ⟨_, _, _, _, cl_10, by decide, am_mem 387 (by decide +kernel) (by decide +kernel)⟩
theorem fl_X10_21 : am_fl RX10 21 10 1 := ⟨_, _, _, _, cl_10, by decide, am_mem 388 (by decide +kernel) (by decide +kernel)⟩
theorem fl_X10_30 : am_fl RX10 30 10 2 := ⟨_, _, _, _, cl_10, by decide, am_mem 389 (by decide +kernel) (by decide +kernel)⟩
theorem fl_X10_37 : am_fl RX10 37 10 4 := ⟨_, _, _, _, cl_10, by decide, am_mem 391 (by decide +kernel) (by decide +kernel)⟩
theorem fl_X10_44 : am_fl RX10 44 10 5 := ⟨_, _, _, _, cl_10, by decide, am_mem 392 (by decide +kernel) (by decide +kernel)⟩
theorem fl_X10_51 : am_fl RX10 51 10 6 := ⟨_, _, _, _, cl_10, by decide, am_mem 393 (by decide +kernel) (by decide +kernel)⟩
theorem fl_X10_58 : am_fl RX10 58 10 7 := ⟨_, _, _, _, cl_10, by decide, am_mem 394 (by decide +kernel) (by decide +kernel)⟩
theorem fl_X10_65 : am_fl RX10 65 10 8 := ⟨_, _, _, _, cl_10, by decide, am_mem 395 (by decide +kernel) (by decide +kernel)⟩
theorem fl_X10_69 : am_fl RX10 69 10 9 := ⟨_, _, _, _, cl_10, by decide, am_mem 396 (by decide +kernel) (by decide +kernel)⟩
theorem fl_X10_72 : am_fl RX10 72 10 10 := ⟨_, _, _, _, cl_10, by decide, am_mem 397 (by decide +kernel) (by decide +kernel)⟩
theorem flp_X10_72 : am_flp RX10 72 10 10 (.object "BureauCrown$Bureau") := ⟨_, _, _, _, cl_10, by decide, am_mem 397 (by decide +kernel) (by decide +kernel), rfl, by decide +kernel⟩
theorem fl_X10_75 : am_fl RX10 75 10 11 := ⟨_, _, _, _, cl_10, by decide, am_mem 398 (by decide +kernel) (by decide +kernel)⟩
theorem flp_X10_75 : am_flp RX10 75 10 11 (.object "BureauCrown$Bureau") := ⟨_, _, _, _, cl_10, by decide, am_mem 398 (by decide +kernel) (by decide +kernel), rfl, by decide +kernel⟩
theorem fl_X10_81 : am_fl RX10 81 10 12 := ⟨_, _, _, _, cl_10, by decide, am_mem 399 (by decide +kernel) (by decide +kernel)⟩
theorem flp_X10_81 : am_flp RX10 81 10 12 (.object "BureauCrown$Law") := ⟨_, _, _, _, cl_10, by decide, am_mem 399 (by decide +kernel) (by decide +kernel), rfl, by decide +kernel⟩
theorem fl_X10_85 : am_fl RX10 85 10 13 := ⟨_, _, _, _, cl_10, by decide, am_mem 400 (by decide +kernel) (by decide +kernel)⟩
theorem flp_X10_85 : am_flp RX10 85 10 13 (.object "BureauCrown$Law") := ⟨_, _, _, _, cl_10, by decide, am_mem 400 (by decide +kernel) (by decide +kernel), rfl, by decide +kernel⟩
theorem fl_X10_93 : am_fl RX10 93 10 3 := ⟨_, _, _, _, cl_10, by decide, am_mem 390 (by decide +kernel) (by decide +kernel)⟩
theorem fl_X10_97 : am_fl RX10 97 10 14 := ⟨_, _, _, _, cl_10, by decide, am_mem 401 (by decide +kernel) (by decide +kernel)⟩
theorem flp_X10_97 : am_flp RX10 97 10 14 .boolean := ⟨_, _, _, _, cl_10, by decide, am_mem 401 (by decide +kernel) (by decide +kernel), rfl, by decide +kernel⟩
theorem fl_X10_112 : am_fl RX10 112 0 5 := ⟨_, _, _, _, cl_0, by decide, am_mem 294 (by decide +kernel) (by decide +kernel)⟩
theorem fl_X10_131 : am_fl RX10 131 9 1 := ⟨_, _, _, _, cl_9, by decide, am_mem 145 (by decide +kernel) (by decide +kernel)⟩
theorem flp_X10_131 : am_flp RX10 131 9 1 .int := ⟨_, _, _, _, cl_9, by decide, am_mem 145 (by decide +kernel) (by decide +kernel), rfl, by decide +kernel⟩
theorem fl_X10_160 : am_fl RX10 160 2 1 := ⟨_, _, _, _, cl_2, by decide, am_mem 213 (by decide +kernel) (by decide +kernel)⟩
theorem flp_X10_160 : am_flp RX10 160 2 1 .int := ⟨_, _, _, _, cl_2, by decide, am_mem 213 (by decide +kernel) (by decide +kernel), rfl, by decide +kernel⟩
theorem fl_X10_169 : am_fl RX10 169 0 1 := ⟨_, _, _, _, cl_0, by decide, am_mem 282 (by decide +kernel) (by decide +kernel)⟩
theorem fl_X10_172 : am_fl RX10 172 2 2 := ⟨_, _, _, _, cl_2, by decide, am_mem 215 (by decide +kernel) (by decide +kernel)⟩
theorem flp_X10_172 : am_flp RX10 172 2 2 .int := ⟨_, _, _, _, cl_2, by decide, am_mem 215 (by decide +kernel) (by decide +kernel), rfl, by decide +kernel⟩
theorem fl_X10_182 : am_fl RX10 182 0 0 := ⟨_, _, _, _, cl_0, by decide, am_mem 279 (by decide +kernel) (by decide +kernel)⟩
theorem fl_X10_189 : am_fl RX10 189 0 3 := ⟨_, _, _, _, cl_0, by decide, am_mem 288 (by decide +kernel) (by decide +kernel)⟩
theorem fl_X10_192 : am_fl RX10 192 0 4 := ⟨_, _, _, _, cl_0, by decide, am_mem 292 (by decide +kernel) (by decide +kernel)⟩
theorem fl_X10_195 : am_fl RX10 195 0 6 := ⟨_, _, _, _, cl_0, by decide, am_mem 299 (by decide +kernel) (by decide +kernel)⟩
theorem fl_X10_197 : am_fl RX10 197 0 7 := ⟨_, _, _, _, cl_0, by decide, am_mem 303 (by decide +kernel) (by decide +kernel)⟩
theorem fl_X10_200 : am_fl RX10 200 0 8 := ⟨_, _, _, _, cl_0, by decide, am_mem 308 (by decide +kernel) (by decide +kernel)⟩
theorem flp_X10_200 : am_flp RX10 200 0 8 .int := ⟨_, _, _, _, cl_0, by decide, am_mem 308 (by decide +kernel) (by decide +kernel), rfl, by decide +kernel⟩
theorem fl_X10_263 : am_fl RX10 263 0 10 := ⟨_, _, _, _, cl_0, by decide, am_mem 314 (by decide +kernel) (by decide +kernel)⟩
theorem flp_X10_263 : am_flp RX10 263 0 10 .int := ⟨_, _, _, _, cl_0, by decide, am_mem 314 (by decide +kernel) (by decide +kernel), rfl, by decide +kernel⟩
theorem fl_X10_266 : am_fl RX10 266 0 9 := ⟨_, _, _, _, cl_0, by decide, am_mem 312 (by decide +kernel) (by decide +kernel)⟩
theorem flp_X10_266 : am_flp RX10 266 0 9 .int := ⟨_, _, _, _, cl_0, by decide, am_mem 312 (by decide +kernel) (by decide +kernel), rfl, by decide +kernel⟩
theorem fl_X10_281 : am_fl RX10 281 3 7 := ⟨_, _, _, _, cl_3, by decide, am_mem 352 (by decide +kernel) (by decide +kernel)⟩
theorem flp_X10_281 : am_flp RX10 281 3 7 .int := ⟨_, _, _, _, cl_3, by decide, am_mem 352 (by decide +kernel) (by decide +kernel), rfl, by decide +kernel⟩
theorem fl_X0_9 : am_fl RX0 9 0 0 := ⟨_, _, _, _, cl_0, by decide, am_mem 277 (by decide +kernel) (by decide +kernel)⟩
theorem fl_X0_15 : am_fl RX0 15 0 1 := ⟨_, _, _, _, cl_0, by decide, am_mem 281 (by decide +kernel) (by decide +kernel)⟩
theorem fl_X0_18 : am_fl RX0 18 0 2 := ⟨_, _, _, _, cl_0, by decide, am_mem 284 (by decide +kernel) (by decide +kernel)⟩
theorem fl_X0_21 : am_fl RX0 21 0 3 := ⟨_, _, _, _, cl_0, by decide, am_mem 286 (by decide +kernel) (by decide +kernel)⟩
theorem fl_X0_24 : am_fl RX0 24 0 4 := ⟨_, _, _, _, cl_0, by decide, am_mem 289 (by decide +kernel) (by decide +kernel)⟩
theorem fl_X0_27 : am_fl RX0 27 0 5 := ⟨_, _, _, _, cl_0, by decide, am_mem 293 (by decide +kernel) (by decide +kernel)⟩
theorem fl_X0_30 : am_fl RX0 30 0 6 := ⟨_, _, _, _, cl_0, by decide, am_mem 296 (by decide +kernel) (by decide +kernel)⟩
theorem fl_X0_33 : am_fl RX0 33 0 7 := ⟨_, _, _, _, cl_0, by decide, am_mem 300 (by decide +kernel) (by decide +kernel)⟩
theorem fl_X0_36 : am_fl RX0 36 0 8 := ⟨_, _, _, _, cl_0, by decide, am_mem 304 (by decide +kernel) (by decide +kernel)⟩
theorem flp_X0_36 : am_flp RX0 36 0 8 .int := ⟨_, _, _, _, cl_0, by decide, am_mem 304 (by decide +kernel) (by decide +kernel), rfl, by decide +kernel⟩
theorem fl_X0_40 : am_fl RX0 40 0 9 := ⟨_, _, _, _, cl_0, by decide, am_mem 309 (by decide +kernel) (by decide +kernel)⟩
theorem flp_X0_40 : am_flp RX0 40 0 9 .int := ⟨_, _, _, _, cl_0, by decide, am_mem 309 (by decide +kernel) (by decide +kernel), rfl, by decide +kernel⟩
theorem fl_X0_43 : am_fl RX0 43 0 10 := ⟨_, _, _, _, cl_0, by decide, am_mem 313 (by decide +kernel) (by decide +kernel)⟩
theorem flp_X0_43 : am_flp RX0 43 0 10 .int := ⟨_, _, _, _, cl_0, by decide, am_mem 313 (by decide +kernel) (by decide +kernel), rfl, by decide +kernel⟩
theorem fl_X1_9 : am_fl RX1 9 1 0 := ⟨_, _, _, _, cl_1, by decide, am_mem 182 (by decide +kernel) (by decide +kernel)⟩
theorem fl_X1_41 : am_fl RX1 41 7 3 := ⟨_, _, _, _, cl_7, by decide, am_mem 165 (by decide +kernel) (by decide +kernel)⟩
theorem flp_X1_41 : am_flp RX1 41 7 3 .int := ⟨_, _, _, _, cl_7, by decide, am_mem 165 (by decide +kernel) (by decide +kernel), rfl, by decide +kernel⟩
theorem fl_X1_52 : am_fl RX1 52 0 8 := ⟨_, _, _, _, cl_0, by decide, am_mem 306 (by decide +kernel) (by decide +kernel)⟩
theorem flp_X1_52 : am_flp RX1 52 0 8 .int := ⟨_, _, _, _, cl_0, by decide, am_mem 306 (by decide +kernel) (by decide +kernel), rfl, by decide +kernel⟩
theorem fl_X1_74 : am_fl RX1 74 7 2 := ⟨_, _, _, _, cl_7, by decide, am_mem 162 (by decide +kernel) (by decide +kernel)⟩
theorem flp_X1_74 : am_flp RX1 74 7 2 .int := ⟨_, _, _, _, cl_7, by decide, am_mem 162 (by decide +kernel) (by decide +kernel), rfl, by decide +kernel⟩
theorem fl_X2_9 : am_fl RX2 9 2 0 := ⟨_, _, _, _, cl_2, by decide, am_mem 211 (by decide +kernel) (by decide +kernel)⟩
theorem fl_X2_15 : am_fl RX2 15 2 1 := ⟨_, _, _, _, cl_2, by decide, am_mem 212 (by decide +kernel) (by decide +kernel)⟩
theorem flp_X2_15 : am_flp RX2 15 2 1 .int := ⟨_, _, _, _, cl_2, by decide, am_mem 212 (by decide +kernel) (by decide +kernel), rfl, by decide +kernel⟩
theorem fl_X2_19 : am_fl RX2 19 2 2 := ⟨_, _, _, _, cl_2, by decide, am_mem 214 (by decide +kernel) (by decide +kernel)⟩
theorem flp_X2_19 : am_flp RX2 19 2 2 .int := ⟨_, _, _, _, cl_2, by decide, am_mem 214 (by decide +kernel) (by decide +kernel), rfl, by decide +kernel⟩
theorem fl_X2_22 : am_fl RX2 22 0 9 := ⟨_, _, _, _, cl_0, by decide, am_mem 310 (by decide +kernel) (by decide +kernel)⟩
theorem flp_X2_22 : am_flp RX2 22 0 9 .int := ⟨_, _, _, _, cl_0, by decide, am_mem 310 (by decide +kernel) (by decide +kernel), rfl, by decide +kernel⟩
theorem fl_X2_51 : am_fl RX2 51 0 8 := ⟨_, _, _, _, cl_0, by decide, am_mem 307 (by decide +kernel) (by decide +kernel)⟩
theorem flp_X2_51 : am_flp RX2 51 0 8 .int := ⟨_, _, _, _, cl_0, by decide, am_mem 307 (by decide +kernel) (by decide +kernel), rfl, by decide +kernel⟩
theorem fl_X2_75 : am_fl RX2 75 0 5 := ⟨_, _, _, _, cl_0, by decide, am_mem 295 (by decide +kernel) (by decide +kernel)⟩
theorem fl_X2_79 : am_fl RX2 79 0 6 := ⟨_, _, _, _, cl_0, by decide, am_mem 297 (by decide +kernel) (by decide +kernel)⟩
theorem fl_X2_82 : am_fl RX2 82 0 7 := ⟨_, _, _, _, cl_0, by decide, am_mem 301 (by decide +kernel) (by decide +kernel)⟩
theorem fl_X3_11 : am_fl RX3 11 3 0 := ⟨_, _, _, _, cl_3, by decide, am_mem 344 (by decide +kernel) (by decide +kernel)⟩
theorem fl_X3_15 : am_fl RX3 15 3 1 := ⟨_, _, _, _, cl_3, by decide, am_mem 345 (by decide +kernel) (by decide +kernel)⟩
theorem fl_X3_18 : am_fl RX3 18 3 2 := ⟨_, _, _, _, cl_3, by decide, am_mem 346 (by decide +kernel) (by decide +kernel)⟩
theorem fl_X3_21 : am_fl RX3 21 3 3 := ⟨_, _, _, _, cl_3, by decide, am_mem 347 (by decide +kernel) (by decide +kernel)⟩
theorem fl_X3_24 : am_fl RX3 24 3 4 := ⟨_, _, _, _, cl_3, by decide, am_mem 348 (by decide +kernel) (by decide +kernel)⟩
theorem fl_X3_27 : am_fl RX3 27 3 5 := ⟨_, _, _, _, cl_3, by decide, am_mem 349 (by decide +kernel) (by decide +kernel)⟩
theorem fl_X3_30 : am_fl RX3 30 3 6 := ⟨_, _, _, _, cl_3, by decide, am_mem 350 (by decide +kernel) (by decide +kernel)⟩
theorem fl_X3_33 : am_fl RX3 33 3 7 := ⟨_, _, _, _, cl_3, by decide, am_mem 351 (by decide +kernel) (by decide +kernel)⟩
theorem flp_X3_33 : am_flp RX3 33 3 7 .int := ⟨_, _, _, _, cl_3, by decide, am_mem 351 (by decide +kernel) (by decide +kernel), rfl, by decide +kernel⟩
theorem fl_X3_37 : am_fl RX3 37 3 8 := ⟨_, _, _, _, cl_3, by decide, am_mem 353 (by decide +kernel) (by decide +kernel)⟩
theorem flp_X3_37 : am_flp RX3 37 3 8 .int := ⟨_, _, _, _, cl_3, by decide, am_mem 353 (by decide +kernel) (by decide +kernel), rfl, by decide +kernel⟩
theorem fl_X3_65 : am_fl RX3 65 0 3 := ⟨_, _, _, _, cl_0, by decide, am_mem 287 (by decide +kernel) (by decide +kernel)⟩
theorem fl_X3_68 : am_fl RX3 68 0 4 := ⟨_, _, _, _, cl_0, by decide, am_mem 291 (by decide +kernel) (by decide +kernel)⟩
theorem fl_X3_71 : am_fl RX3 71 0 0 := ⟨_, _, _, _, cl_0, by decide, am_mem 280 (by decide +kernel) (by decide +kernel)⟩
theorem fl_X3_74 : am_fl RX3 74 0 1 := ⟨_, _, _, _, cl_0, by decide, am_mem 283 (by decide +kernel) (by decide +kernel)⟩
theorem fl_X3_77 : am_fl RX3 77 0 2 := ⟨_, _, _, _, cl_0, by decide, am_mem 285 (by decide +kernel) (by decide +kernel)⟩
theorem fl_X3_80 : am_fl RX3 80 0 7 := ⟨_, _, _, _, cl_0, by decide, am_mem 302 (by decide +kernel) (by decide +kernel)⟩
theorem fl_X3_83 : am_fl RX3 83 0 6 := ⟨_, _, _, _, cl_0, by decide, am_mem 298 (by decide +kernel) (by decide +kernel)⟩
theorem fl_X3_86 : am_fl RX3 86 0 9 := ⟨_, _, _, _, cl_0, by decide, am_mem 311 (by decide +kernel) (by decide +kernel)⟩
theorem flp_X3_86 : am_flp RX3 86 0 9 .int := ⟨_, _, _, _, cl_0, by decide, am_mem 311 (by decide +kernel) (by decide +kernel), rfl, by decide +kernel⟩
theorem fl_X4_9 : am_fl RX4 9 4 0 := ⟨_, _, _, _, cl_4, by decide, am_mem 380 (by decide +kernel) (by decide +kernel)⟩
theorem fl_X4_15 : am_fl RX4 15 4 1 := ⟨_, _, _, _, cl_4, by decide, am_mem 381 (by decide +kernel) (by decide +kernel)⟩
theorem flp_X4_15 : am_flp RX4 15 4 1 (.object "BureauCrown$Law") := ⟨_, _, _, _, cl_4, by decide, am_mem 381 (by decide +kernel) (by decide +kernel), rfl, by decide +kernel⟩
theorem fl_X4_44 : am_fl RX4 44 7 3 := ⟨_, _, _, _, cl_7, by decide, am_mem 166 (by decide +kernel) (by decide +kernel)⟩
theorem flp_X4_44 : am_flp RX4 44 7 3 .int := ⟨_, _, _, _, cl_7, by decide, am_mem 166 (by decide +kernel) (by decide +kernel), rfl, by decide +kernel⟩
theorem fl_X4_54 : am_fl RX4 54 3 8 := ⟨_, _, _, _, cl_3, by decide, am_mem 354 (by decide +kernel) (by decide +kernel)⟩
theorem flp_X4_54 : am_flp RX4 54 3 8 .int := ⟨_, _, _, _, cl_3, by decide, am_mem 354 (by decide +kernel) (by decide +kernel), rfl, by decide +kernel⟩
theorem fl_X5_11 : am_fl RX5 11 5 1 := ⟨_, _, _, _, cl_5, by decide, am_mem 256 (by decide +kernel) (by decide +kernel)⟩
theorem fl_X5_15 : am_fl RX5 15 5 2 := ⟨_, _, _, _, cl_5, by decide, am_mem 257 (by decide +kernel) (by decide +kernel)⟩
theorem fl_X5_18 : am_fl RX5 18 5 3 := ⟨_, _, _, _, cl_5, by decide, am_mem 258 (by decide +kernel) (by decide +kernel)⟩
theorem fl_X5_21 : am_fl RX5 21 5 4 := ⟨_, _, _, _, cl_5, by decide, am_mem 259 (by decide +kernel) (by decide +kernel)⟩
theorem flp_X5_21 : am_flp RX5 21 5 4 .int := ⟨_, _, _, _, cl_5, by decide, am_mem 259 (by decide +kernel) (by decide +kernel), rfl, by decide +kernel⟩
theorem fl_X5_25 : am_fl RX5 25 5 0 := ⟨_, _, _, _, cl_5, by decide, am_mem 255 (by decide +kernel) (by decide +kernel)⟩
theorem fl_X6_11 : am_fl RX6 11 6 1 := ⟨_, _, _, _, cl_6, by decide, am_mem 231 (by decide +kernel) (by decide +kernel)⟩
theorem fl_X6_15 : am_fl RX6 15 6 2 := ⟨_, _, _, _, cl_6, by decide, am_mem 232 (by decide +kernel) (by decide +kernel)⟩
theorem fl_X6_18 : am_fl RX6 18 6 3 := ⟨_, _, _, _, cl_6, by decide, am_mem 233 (by decide +kernel) (by decide +kernel)⟩
theorem fl_X6_21 : am_fl RX6 21 6 4 := ⟨_, _, _, _, cl_6, by decide, am_mem 234 (by decide +kernel) (by decide +kernel)⟩
theorem fl_X6_24 : am_fl RX6 24 6 5 := ⟨_, _, _, _, cl_6, by decide, am_mem 235 (by decide +kernel) (by decide +kernel)⟩
theorem fl_X6_27 : am_fl RX6 27 6 0 := ⟨_, _, _, _, cl_6, by decide, am_mem 230 (by decide +kernel) (by decide +kernel)⟩
theorem fl_X6_31 : am_fl RX6 31 0 8 := ⟨_, _, _, _, cl_0, by decide, am_mem 305 (by decide +kernel) (by decide +kernel)⟩
theorem flp_X6_31 : am_flp RX6 31 0 8 .int := ⟨_, _, _, _, cl_0, by decide, am_mem 305 (by decide +kernel) (by decide +kernel), rfl, by decide +kernel⟩
theorem fl_X6_47 : am_fl RX6 47 0 4 := ⟨_, _, _, _, cl_0, by decide, am_mem 290 (by decide +kernel) (by decide +kernel)⟩
theorem fl_X6_64 : am_fl RX6 64 0 0 := ⟨_, _, _, _, cl_0, by decide, am_mem 278 (by decide +kernel) (by decide +kernel)⟩
theorem fl_X7_9 : am_fl RX7 9 7 1 := ⟨_, _, _, _, cl_7, by decide, am_mem 159 (by decide +kernel) (by decide +kernel)⟩
theorem flp_X7_9 : am_flp RX7 9 7 1 .int := ⟨_, _, _, _, cl_7, by decide, am_mem 159 (by decide +kernel) (by decide +kernel), rfl, by decide +kernel⟩
theorem fl_X7_15 : am_fl RX7 15 7 2 := ⟨_, _, _, _, cl_7, by decide, am_mem 160 (by decide +kernel) (by decide +kernel)⟩
theorem flp_X7_15 : am_flp RX7 15 7 2 .int := ⟨_, _, _, _, cl_7, by decide, am_mem 160 (by decide +kernel) (by decide +kernel), rfl, by decide +kernel⟩
theorem fl_X7_18 : am_fl RX7 18 7 3 := ⟨_, _, _, _, cl_7, by decide, am_mem 163 (by decide +kernel) (by decide +kernel)⟩
theorem flp_X7_18 : am_flp RX7 18 7 3 .int := ⟨_, _, _, _, cl_7, by decide, am_mem 163 (by decide +kernel) (by decide +kernel), rfl, by decide +kernel⟩
theorem fl_X7_21 : am_fl RX7 21 7 0 := ⟨_, _, _, _, cl_7, by decide, am_mem 158 (by decide +kernel) (by decide +kernel)⟩
theorem fl_X8_9 : am_fl RX8 9 8 1 := ⟨_, _, _, _, cl_8, by decide, am_mem 193 (by decide +kernel) (by decide +kernel)⟩
theorem fl_X8_13 : am_fl RX8 13 8 2 := ⟨_, _, _, _, cl_8, by decide, am_mem 194 (by decide +kernel) (by decide +kernel)⟩
theorem fl_X8_16 : am_fl RX8 16 8 3 := ⟨_, _, _, _, cl_8, by decide, am_mem 195 (by decide +kernel) (by decide +kernel)⟩
theorem flp_X8_16 : am_flp RX8 16 8 3 .int := ⟨_, _, _, _, cl_8, by decide, am_mem 195 (by decide +kernel) (by decide +kernel), rfl, by decide +kernel⟩
theorem fl_X8_20 : am_fl RX8 20 8 0 := ⟨_, _, _, _, cl_8, by decide, am_mem 192 (by decide +kernel) (by decide +kernel)⟩
theorem fl_X8_37 : am_fl RX8 37 7 3 := ⟨_, _, _, _, cl_7, by decide, am_mem 164 (by decide +kernel) (by decide +kernel)⟩
theorem flp_X8_37 : am_flp RX8 37 7 3 .int := ⟨_, _, _, _, cl_7, by decide, am_mem 164 (by decide +kernel) (by decide +kernel), rfl, by decide +kernel⟩
theorem fl_X8_47 : am_fl RX8 47 7 2 := ⟨_, _, _, _, cl_7, by decide, am_mem 161 (by decide +kernel) (by decide +kernel)⟩
theorem flp_X8_47 : am_flp RX8 47 7 2 .int := ⟨_, _, _, _, cl_7, by decide, am_mem 161 (by decide +kernel) (by decide +kernel), rfl, by decide +kernel⟩
theorem fl_X9_9 : am_fl RX9 9 9 0 := ⟨_, _, _, _, cl_9, by decide, am_mem 143 (by decide +kernel) (by decide +kernel)⟩
theorem fl_X9_13 : am_fl RX9 13 9 1 := ⟨_, _, _, _, cl_9, by decide, am_mem 144 (by decide +kernel) (by decide +kernel)⟩
theorem flp_X9_13 : am_flp RX9 13 9 1 .int := ⟨_, _, _, _, cl_9, by decide, am_mem 144 (by decide +kernel) (by decide +kernel), rfl, by decide +kernel⟩
theorem fl_X11_7 : am_fl RX11 7 11 0 := ⟨_, _, _, _, cl_11, by decide, am_mem 1152 (by decide +kernel) (by decide +kernel)⟩
theorem fl_X11_13 : am_fl RX11 13 11 1 := ⟨_, _, _, _, cl_11, by decide, am_mem 1153 (by decide +kernel) (by decide +kernel)⟩
theorem fl_X11_16 : am_fl RX11 16 11 2 := ⟨_, _, _, _, cl_11, by decide, am_mem 1154 (by decide +kernel) (by decide +kernel)⟩
theorem fl_X11_19 : am_fl RX11 19 11 3 := ⟨_, _, _, _, cl_11, by decide, am_mem 1155 (by decide +kernel) (by decide +kernel)⟩
theorem fl_X11_22 : am_fl RX11 22 11 4 := ⟨_, _, _, _, cl_11, by decide, am_mem 1156 (by decide +kernel) (by decide +kernel)⟩
theorem fl_X11_25 : am_fl RX11 25 11 5 := ⟨_, _, _, _, cl_11, by decide, am_mem 1157 (by decide +kernel) (by decide +kernel)⟩
theorem fl_X11_28 : am_fl RX11 28 11 8 := ⟨_, _, _, _, cl_11, by decide, am_mem 1160 (by decide +kernel) (by decide +kernel)⟩
theorem fl_X11_32 : am_fl RX11 32 11 19 := ⟨_, _, _, _, cl_11, by decide, am_mem 1171 (by decide +kernel) (by decide +kernel)⟩
theorem fl_X11_35 : am_fl RX11 35 11 20 := ⟨_, _, _, _, cl_11, by decide, am_mem 1172 (by decide +kernel) (by decide +kernel)⟩
theorem fl_X11_38 : am_fl RX11 38 11 21 := ⟨_, _, _, _, cl_11, by decide, am_mem 1173 (by decide +kernel) (by decide +kernel)⟩
theorem fl_X11_41 : am_fl RX11 41 11 22 := ⟨_, _, _, _, cl_11, by decide, am_mem 1174 (by decide +kernel) (by decide +kernel)⟩
theorem fl_X11_44 : am_fl RX11 44 11 23 := ⟨_, _, _, _, cl_11, by decide, am_mem 1175 (by decide +kernel) (by decide +kernel)⟩
theorem fl_X11_47 : am_fl RX11 47 11 24 := ⟨_, _, _, _, cl_11, by decide, am_mem 1176 (by decide +kernel) (by decide +kernel)⟩
theorem fl_X11_50 : am_fl RX11 50 11 25 := ⟨_, _, _, _, cl_11, by decide, am_mem 1177 (by decide +kernel) (by decide +kernel)⟩
theorem fl_X11_53 : am_fl RX11 53 11 26 := ⟨_, _, _, _, cl_11, by decide, am_mem 1178 (by decide +kernel) (by decide +kernel)⟩
theorem fl_X11_56 : am_fl RX11 56 11 27 := ⟨_, _, _, _, cl_11, by decide, am_mem 1179 (by decide +kernel) (by decide +kernel)⟩
theorem fl_X11_59 : am_fl RX11 59 11 28 := ⟨_, _, _, _, cl_11, by decide, am_mem 1180 (by decide +kernel) (by decide +kernel)⟩
theorem fl_X11_62 : am_fl RX11 62 11 29 := ⟨_, _, _, _, cl_11, by decide, am_mem 1181 (by decide +kernel) (by decide +kernel)⟩
theorem fl_X11_65 : am_fl RX11 65 11 30 := ⟨_, _, _, _, cl_11, by decide, am_mem 1182 (by decide +kernel) (by decide +kernel)⟩
theorem fl_X11_68 : am_fl RX11 68 11 31 := ⟨_, _, _, _, cl_11, by decide, am_mem 1183 (by decide +kernel) (by decide +kernel)⟩
theorem fl_X11_71 : am_fl RX11 71 11 32 := ⟨_, _, _, _, cl_11, by decide, am_mem 1184 (by decide +kernel) (by decide +kernel)⟩
theorem fl_X11_74 : am_fl RX11 74 11 33 := ⟨_, _, _, _, cl_11, by decide, am_mem 1185 (by decide +kernel) (by decide +kernel)⟩
theorem fl_X11_77 : am_fl RX11 77 11 34 := ⟨_, _, _, _, cl_11, by decide, am_mem 1186 (by decide +kernel) (by decide +kernel)⟩
theorem fl_X11_80 : am_fl RX11 80 11 35 := ⟨_, _, _, _, cl_11, by decide, am_mem 1187 (by decide +kernel) (by decide +kernel)⟩
theorem fl_X11_83 : am_fl RX11 83 11 36 := ⟨_, _, _, _, cl_11, by decide, am_mem 1188 (by decide +kernel) (by decide +kernel)⟩
theorem fl_X11_86 : am_fl RX11 86 11 43 := ⟨_, _, _, _, cl_11, by decide, am_mem 1195 (by decide +kernel) (by decide +kernel)⟩
theorem fl_X11_89 : am_fl RX11 89 11 44 := ⟨_, _, _, _, cl_11, by decide, am_mem 1196 (by decide +kernel) (by decide +kernel)⟩
theorem fl_X11_92 : am_fl RX11 92 11 45 := ⟨_, _, _, _, cl_11, by decide, am_mem 1197 (by decide +kernel) (by decide +kernel)⟩
theorem fl_X11_95 : am_fl RX11 95 11 46 := ⟨_, _, _, _, cl_11, by decide, am_mem 1198 (by decide +kernel) (by decide +kernel)⟩
theorem fl_X11_98 : am_fl RX11 98 11 47 := ⟨_, _, _, _, cl_11, by decide, am_mem 1199 (by decide +kernel) (by decide +kernel)⟩
theorem fl_X11_101 : am_fl RX11 101 11 48 := ⟨_, _, _, _, cl_11, by decide, am_mem 1200 (by decide +kernel) (by decide +kernel)⟩
theorem fl_X11_104 : am_fl RX11 104 11 53 := ⟨_, _, _, _, cl_11, by decide, am_mem 1205 (by decide +kernel) (by decide +kernel)⟩
theorem fl_X11_107 : am_fl RX11 107 11 54 := ⟨_, _, _, _, cl_11, by decide, am_mem 1206 (by decide +kernel) (by decide +kernel)⟩
theorem fl_X11_110 : am_fl RX11 110 11 55 := ⟨_, _, _, _, cl_11, by decide, am_mem 1207 (by decide +kernel) (by decide +kernel)⟩
theorem fl_X11_113 : am_fl RX11 113 11 56 := ⟨_, _, _, _, cl_11, by decide, am_mem 1208 (by decide +kernel) (by decide +kernel)⟩
theorem fl_X11_116 : am_fl RX11 116 11 57 := ⟨_, _, _, _, cl_11, by decide, am_mem 1209 (by decide +kernel) (by decide +kernel)⟩
theorem fl_X11_119 : am_fl RX11 119 11 58 := ⟨_, _, _, _, cl_11, by decide, am_mem 1210 (by decide +kernel) (by decide +kernel)⟩
theorem fl_X11_122 : am_fl RX11 122 11 59 := ⟨_, _, _, _, cl_11, by decide, am_mem 1211 (by decide +kernel) (by decide +kernel)⟩
theorem fl_X11_129 : am_fl RX11 129 11 6 := ⟨_, _, _, _, cl_11, by decide, am_mem 1158 (by decide +kernel) (by decide +kernel)⟩
theorem flp_X11_129 : am_flp RX11 129 11 6 .int := ⟨_, _, _, _, cl_11, by decide, am_mem 1158 (by decide +kernel) (by decide +kernel), rfl, by decide +kernel⟩
theorem fl_X11_137 : am_fl RX11 137 11 7 := ⟨_, _, _, _, cl_11, by decide, am_mem 1159 (by decide +kernel) (by decide +kernel)⟩
theorem flp_X11_137 : am_flp RX11 137 11 7 .int := ⟨_, _, _, _, cl_11, by decide, am_mem 1159 (by decide +kernel) (by decide +kernel), rfl, by decide +kernel⟩
theorem fl_X11_158 : am_fl RX11 158 11 9 := ⟨_, _, _, _, cl_11, by decide, am_mem 1161 (by decide +kernel) (by decide +kernel)⟩
theorem flp_X11_158 : am_flp RX11 158 11 9 .int := ⟨_, _, _, _, cl_11, by decide, am_mem 1161 (by decide +kernel) (by decide +kernel), rfl, by decide +kernel⟩
theorem fl_X11_164 : am_fl RX11 164 11 10 := ⟨_, _, _, _, cl_11, by decide, am_mem 1162 (by decide +kernel) (by decide +kernel)⟩
theorem flp_X11_164 : am_flp RX11 164 11 10 .int := ⟨_, _, _, _, cl_11, by decide, am_mem 1162 (by decide +kernel) (by decide +kernel), rfl, by decide +kernel⟩
theorem fl_X11_167 : am_fl RX11 167 11 11 := ⟨_, _, _, _, cl_11, by decide, am_mem 1163 (by decide +kernel) (by decide +kernel)⟩
theorem flp_X11_167 : am_flp RX11 167 11 11 .int := ⟨_, _, _, _, cl_11, by decide, am_mem 1163 (by decide +kernel) (by decide +kernel), rfl, by decide +kernel⟩
theorem fl_X11_174 : am_fl RX11 174 11 12 := ⟨_, _, _, _, cl_11, by decide, am_mem 1164 (by decide +kernel) (by decide +kernel)⟩
theorem flp_X11_174 : am_flp RX11 174 11 12 .int := ⟨_, _, _, _, cl_11, by decide, am_mem 1164 (by decide +kernel) (by decide +kernel), rfl, by decide +kernel⟩
theorem fl_X11_180 : am_fl RX11 180 11 13 := ⟨_, _, _, _, cl_11, by decide, am_mem 1165 (by decide +kernel) (by decide +kernel)⟩
theorem flp_X11_180 : am_flp RX11 180 11 13 .int := ⟨_, _, _, _, cl_11, by decide, am_mem 1165 (by decide +kernel) (by decide +kernel), rfl, by decide +kernel⟩
theorem fl_X11_187 : am_fl RX11 187 11 15 := ⟨_, _, _, _, cl_11, by decide, am_mem 1167 (by decide +kernel) (by decide +kernel)⟩
theorem flp_X11_187 : am_flp RX11 187 11 15 .int := ⟨_, _, _, _, cl_11, by decide, am_mem 1167 (by decide +kernel) (by decide +kernel), rfl, by decide +kernel⟩
theorem fl_X11_191 : am_fl RX11 191 11 14 := ⟨_, _, _, _, cl_11, by decide, am_mem 1166 (by decide +kernel) (by decide +kernel)⟩
theorem flp_X11_191 : am_flp RX11 191 11 14 .int := ⟨_, _, _, _, cl_11, by decide, am_mem 1166 (by decide +kernel) (by decide +kernel), rfl, by decide +kernel⟩
theorem fl_X11_194 : am_fl RX11 194 11 16 := ⟨_, _, _, _, cl_11, by decide, am_mem 1168 (by decide +kernel) (by decide +kernel)⟩
theorem flp_X11_194 : am_flp RX11 194 11 16 .int := ⟨_, _, _, _, cl_11, by decide, am_mem 1168 (by decide +kernel) (by decide +kernel), rfl, by decide +kernel⟩
theorem fl_X11_241 : am_fl RX11 241 11 17 := ⟨_, _, _, _, cl_11, by decide, am_mem 1169 (by decide +kernel) (by decide +kernel)⟩
theorem flp_X11_241 : am_flp RX11 241 11 17 .int := ⟨_, _, _, _, cl_11, by decide, am_mem 1169 (by decide +kernel) (by decide +kernel), rfl, by decide +kernel⟩
theorem fl_X11_256 : am_fl RX11 256 11 18 := ⟨_, _, _, _, cl_11, by decide, am_mem 1170 (by decide +kernel) (by decide +kernel)⟩
theorem flp_X11_256 : am_flp RX11 256 11 18 .int := ⟨_, _, _, _, cl_11, by decide, am_mem 1170 (by decide +kernel) (by decide +kernel), rfl, by decide +kernel⟩
theorem fl_X11_267 : am_fl RX11 267 11 37 := ⟨_, _, _, _, cl_11, by decide, am_mem 1189 (by decide +kernel) (by decide +kernel)⟩
theorem flp_X11_267 : am_flp RX11 267 11 37 .int := ⟨_, _, _, _, cl_11, by decide, am_mem 1189 (by decide +kernel) (by decide +kernel), rfl, by decide +kernel⟩
theorem fl_X11_270 : am_fl RX11 270 11 38 := ⟨_, _, _, _, cl_11, by decide, am_mem 1190 (by decide +kernel) (by decide +kernel)⟩
theorem flp_X11_270 : am_flp RX11 270 11 38 .int := ⟨_, _, _, _, cl_11, by decide, am_mem 1190 (by decide +kernel) (by decide +kernel), rfl, by decide +kernel⟩
theorem fl_X11_273 : am_fl RX11 273 11 39 := ⟨_, _, _, _, cl_11, by decide, am_mem 1191 (by decide +kernel) (by decide +kernel)⟩
theorem flp_X11_273 : am_flp RX11 273 11 39 .int := ⟨_, _, _, _, cl_11, by decide, am_mem 1191 (by decide +kernel) (by decide +kernel), rfl, by decide +kernel⟩
theorem fl_X11_295 : am_fl RX11 295 11 42 := ⟨_, _, _, _, cl_11, by decide, am_mem 1194 (by decide +kernel) (by decide +kernel)⟩
theorem flp_X11_295 : am_flp RX11 295 11 42 .int := ⟨_, _, _, _, cl_11, by decide, am_mem 1194 (by decide +kernel) (by decide +kernel), rfl, by decide +kernel⟩
theorem fl_X11_305 : am_fl RX11 305 11 40 := ⟨_, _, _, _, cl_11, by decide, am_mem 1192 (by decide +kernel) (by decide +kernel)⟩
theorem flp_X11_305 : am_flp RX11 305 11 40 .int := ⟨_, _, _, _, cl_11, by decide, am_mem 1192 (by decide +kernel) (by decide +kernel), rfl, by decide +kernel⟩
theorem fl_X11_311 : am_fl RX11 311 11 41 := ⟨_, _, _, _, cl_11, by decide, am_mem 1193 (by decide +kernel) (by decide +kernel)⟩
theorem flp_X11_311 : am_flp RX11 311 11 41 .int := ⟨_, _, _, _, cl_11, by decide, am_mem 1193 (by decide +kernel) (by decide +kernel), rfl, by decide +kernel⟩
theorem fl_X11_346 : am_fl RX11 346 11 51 := ⟨_, _, _, _, cl_11, by decide, am_mem 1203 (by decide +kernel) (by decide +kernel)⟩
theorem flp_X11_346 : am_flp RX11 346 11 51 .int := ⟨_, _, _, _, cl_11, by decide, am_mem 1203 (by decide +kernel) (by decide +kernel), rfl, by decide +kernel⟩
theorem fl_X11_349 : am_fl RX11 349 11 52 := ⟨_, _, _, _, cl_11, by decide, am_mem 1204 (by decide +kernel) (by decide +kernel)⟩
theorem flp_X11_349 : am_flp RX11 349 11 52 .int := ⟨_, _, _, _, cl_11, by decide, am_mem 1204 (by decide +kernel) (by decide +kernel), rfl, by decide +kernel⟩
theorem fl_X11_352 : am_fl RX11 352 11 49 := ⟨_, _, _, _, cl_11, by decide, am_mem 1201 (by decide +kernel) (by decide +kernel)⟩
theorem flp_X11_352 : am_flp RX11 352 11 49 .int := ⟨_, _, _, _, cl_11, by decide, am_mem 1201 (by decide +kernel) (by decide +kernel), rfl, by decide +kernel⟩
theorem fl_X11_358 : am_fl RX11 358 11 50 := ⟨_, _, _, _, cl_11, by decide, am_mem 1202 (by decide +kernel) (by decide +kernel)⟩
theorem flp_X11_358 : am_flp RX11 358 11 50 .int := ⟨_, _, _, _, cl_11, by decide, am_mem 1202 (by decide +kernel) (by decide +kernel), rfl, by decide +kernel⟩
theorem fl_X11_425 : am_fl RX11 425 11 60 := ⟨_, _, _, _, cl_11, by decide, am_mem 1212 (by decide +kernel) (by decide +kernel)⟩
theorem flp_X11_425 : am_flp RX11 425 11 60 .boolean := ⟨_, _, _, _, cl_11, by decide, am_mem 1212 (by decide +kernel) (by decide +kernel), rfl, by decide +kernel⟩
theorem fl_X11_429 : am_fl RX11 429 11 61 := ⟨_, _, _, _, cl_11, by decide, am_mem 1213 (by decide +kernel) (by decide +kernel)⟩
theorem flp_X11_429 : am_flp RX11 429 11 61 .int := ⟨_, _, _, _, cl_11, by decide, am_mem 1213 (by decide +kernel) (by decide +kernel), rfl, by decide +kernel⟩
theorem ml_X10_18 : Cond.methodLink RX10 18 yX7_init ∈ lw_g := am_mem 154 (by decide +kernel) (by decide +kernel)
theorem ml_X10_27 : Cond.methodLink RX10 27 yX1_init ∈ lw_g := am_mem 178 (by decide +kernel) (by decide +kernel)
theorem ml_X10_36 : Cond.methodLink RX10 36 yX8_init ∈ lw_g := am_mem 188 (by decide +kernel) (by decide +kernel)
theorem ml_X10_50 : Cond.methodLink RX10 50 yX6_init ∈ lw_g := am_mem 226 (by decide +kernel) (by decide +kernel)
theorem ml_X10_57 : Cond.methodLink RX10 57 yX5_init ∈ lw_g := am_mem 251 (by decide +kernel) (by decide +kernel)
theorem ml_X10_90 : Cond.methodLink RX10 90 yX4_init ∈ lw_g := am_mem 376 (by decide +kernel) (by decide +kernel)
theorem ml_X10_101 : Cond.methodLink RX10 101 yX0_hasPaper ∈ lw_g := am_mem 437 (by decide +kernel) (by decide +kernel)
theorem ml_X10_105 : Cond.methodLink RX10 105 yX0_takeOut ∈ lw_g := am_mem 441 (by decide +kernel) (by decide +kernel)
theorem ml_X10_109 : Cond.methodLink RX10 109 yX0_isTold ∈ lw_g := am_mem 454 (by decide +kernel) (by decide +kernel)
theorem ml_X10_116 : Cond.methodLink RX10 116 yX0_fits ∈ lw_g := am_mem 455 (by decide +kernel) (by decide +kernel)
theorem ml_X10_120 : Cond.methodLink RX10 120 yX0_move ∈ lw_g := am_mem 459 (by decide +kernel) (by decide +kernel)
theorem ml_X10_124 : Cond.methodLink RX10 124 yX9_hasSpaceForFive ∈ lw_g := am_mem 468 (by decide +kernel) (by decide +kernel)
theorem ml_X10_128 : Cond.methodLink RX10 128 yX9_append ∈ lw_g := am_mem 472 (by decide +kernel) (by decide +kernel)
theorem ml_X10_135 : Cond.methodLink RX10 135 yX10_isFromTo ∈ lw_g := am_mem 480 (by decide +kernel) (by decide +kernel)
theorem ml_X10_139 : Cond.methodLink RX10 139 yX9_holds ∈ lw_g := am_mem 483 (by decide +kernel) (by decide +kernel)
theorem ml_X10_142 : Cond.methodLink RX10 142 yX4_read ∈ lw_g := am_mem 487 (by decide +kernel) (by decide +kernel)
theorem ml_X10_146 : Cond.methodLink RX10 146 yX9_clear ∈ lw_g := am_mem 691 (by decide +kernel) (by decide +kernel)
theorem ml_X10_149 : Cond.methodLink RX10 149 yX1_read ∈ lw_g := am_mem 700 (by decide +kernel) (by decide +kernel)
theorem ml_X10_152 : Cond.methodLink RX10 152 yX0_takeTime ∈ lw_g := am_mem 753 (by decide +kernel) (by decide +kernel)
theorem ml_X10_156 : Cond.methodLink RX10 156 yX2_pass ∈ lw_g := am_mem 761 (by decide +kernel) (by decide +kernel)
theorem ml_X10_163 : Cond.methodLink RX10 163 yX10_canBeTried ∈ lw_g := am_mem 822 (by decide +kernel) (by decide +kernel)
theorem ml_X10_166 : Cond.methodLink RX10 166 yX0_copyFrom ∈ lw_g := am_mem 826 (by decide +kernel) (by decide +kernel)
theorem ml_X10_175 : Cond.methodLink RX10 175 yX0_bitsOut ∈ lw_g := am_mem 834 (by decide +kernel) (by decide +kernel)
theorem ml_X10_179 : Cond.methodLink RX10 179 yX0_bitsRead ∈ lw_g := am_mem 842 (by decide +kernel) (by decide +kernel)
theorem ml_X10_185 : Cond.methodLink RX10 185 yX0_bitsIn ∈ lw_g := am_mem 850 (by decide +kernel) (by decide +kernel)
theorem ml_X10_203 : Cond.methodLink RX10 203 yX6_fewestDrawers ∈ lw_g := am_mem 863 (by decide +kernel) (by decide +kernel)
theorem ml_X10_207 : Cond.methodLink RX10 207 yX0_freest ∈ lw_g := am_mem 882 (by decide +kernel) (by decide +kernel)
theorem ml_X10_210 : Cond.methodLink RX10 210 yX0_space ∈ lw_g := am_mem 890 (by decide +kernel) (by decide +kernel)
theorem ml_X10_213 : Cond.methodLink RX10 213 yX0_papersOf ∈ lw_g := am_mem 895 (by decide +kernel) (by decide +kernel)
theorem ml_X10_216 : Cond.methodLink RX10 216 yX0_sizesInOf ∈ lw_g := am_mem 899 (by decide +kernel) (by decide +kernel)
theorem ml_X10_219 : Cond.methodLink RX10 219 yX0_longestIn ∈ lw_g := am_mem 908 (by decide +kernel) (by decide +kernel)
theorem ml_X10_222 : Cond.methodLink RX10 222 yX8_read ∈ lw_g := am_mem 916 (by decide +kernel) (by decide +kernel)
theorem ml_X10_224 : Cond.methodLink RX10 224 yX8_told ∈ lw_g := am_mem 944 (by decide +kernel) (by decide +kernel)
theorem ml_X10_227 : Cond.methodLink RX10 227 yX5_solve ∈ lw_g := am_mem 977 (by decide +kernel) (by decide +kernel)
theorem ml_X10_231 : Cond.methodLink RX10 231 yX6_mostNested ∈ lw_g := am_mem 1003 (by decide +kernel) (by decide +kernel)
theorem ml_X10_234 : Cond.methodLink RX10 234 yX6_longestRising ∈ lw_g := am_mem 1017 (by decide +kernel) (by decide +kernel)
theorem ml_X10_237 : Cond.methodLink RX10 237 yX6_balancePlace ∈ lw_g := am_mem 1025 (by decide +kernel) (by decide +kernel)
theorem ml_X10_240 : Cond.methodLink RX10 240 yX6_holesFilled ∈ lw_g := am_mem 1033 (by decide +kernel) (by decide +kernel)
theorem ml_X10_243 : Cond.methodLink RX10 243 yX6_waysToPlank ∈ lw_g := am_mem 1045 (by decide +kernel) (by decide +kernel)
theorem ml_X10_247 : Cond.methodLink RX10 247 yX6_kingdoms ∈ lw_g := am_mem 1058 (by decide +kernel) (by decide +kernel)
theorem ml_X10_250 : Cond.methodLink RX10 250 yX6_heirInLine ∈ lw_g := am_mem 1070 (by decide +kernel) (by decide +kernel)
theorem ml_X10_253 : Cond.methodLink RX10 253 yX6_waitOfAll ∈ lw_g := am_mem 1082 (by decide +kernel) (by decide +kernel)
theorem ml_X10_256 : Cond.methodLink RX10 256 yX6_heardToTheEnd ∈ lw_g := am_mem 1090 (by decide +kernel) (by decide +kernel)
theorem ml_X10_259 : Cond.methodLink RX10 259 yX6_strokes ∈ lw_g := am_mem 1098 (by decide +kernel) (by decide +kernel)
theorem ml_X10_269 : Cond.methodLink RX10 269 yX0_putBack ∈ lw_g := am_mem 1114 (by decide +kernel) (by decide +kernel)
theorem ml_X10_272 : Cond.methodLink RX10 272 yX10_firstUnlike ∈ lw_g := am_mem 1125 (by decide +kernel) (by decide +kernel)
theorem ml_X10_275 : Cond.methodLink RX10 275 yX9_at ∈ lw_g := am_mem 1129 (by decide +kernel) (by decide +kernel)
theorem ml_X10_278 : Cond.methodLink RX10 278 yX0_bitsTold ∈ lw_g := am_mem 1134 (by decide +kernel) (by decide +kernel)
theorem ml_X10_284 : Cond.methodLink RX10 284 yX0_fullOfAll ∈ lw_g := am_mem 1138 (by decide +kernel) (by decide +kernel)
theorem ml_X10_287 : Cond.methodLink RX10 287 yX0_roomOfAll ∈ lw_g := am_mem 1142 (by decide +kernel) (by decide +kernel)
theorem ml_X0_46 : Cond.methodLink RX0 46 yJ7_fill_53178 ∈ lw_g := am_mem 708 (by decide +kernel) (by decide +kernel)
theorem ml_X0_58 : Cond.methodLink RX0 58 yX0_takeTime ∈ lw_g := am_mem 833 (by decide +kernel) (by decide +kernel)
theorem ml_X0_62 : Cond.methodLink RX0 62 yX0_hasPaper ∈ lw_g := am_mem 445 (by decide +kernel) (by decide +kernel)
theorem ml_X0_66 : Cond.methodLink RX0 66 yX0_isTold ∈ lw_g := am_mem 450 (by decide +kernel) (by decide +kernel)
theorem ml_X0_69 : Cond.methodLink RX0 69 yX0_lift ∈ lw_g := am_mem 446 (by decide +kernel) (by decide +kernel)
theorem ml_X0_73 : Cond.methodLink RX0 73 yX0_fits ∈ lw_g := am_mem 463 (by decide +kernel) (by decide +kernel)
theorem ml_X0_77 : Cond.methodLink RX0 77 yJ9_min_7cf53 ∈ lw_g := am_mem 1118 (by decide +kernel) (by decide +kernel)
theorem ml_X0_83 : Cond.methodLink RX0 83 yX0_takeOut ∈ lw_g := am_mem 1119 (by decide +kernel) (by decide +kernel)
theorem ml_X0_86 : Cond.methodLink RX0 86 yX0_isIn ∈ lw_g := am_mem 903 (by decide +kernel) (by decide +kernel)
theorem ml_X0_89 : Cond.methodLink RX0 89 yX0_move ∈ lw_g := am_mem 1120 (by decide +kernel) (by decide +kernel)
theorem ml_X0_94 : Cond.methodLink RX0 94 yX0_bitsIn ∈ lw_g := am_mem 838 (by decide +kernel) (by decide +kernel)
theorem ml_X0_98 : Cond.methodLink RX0 98 yX0_space ∈ lw_g := am_mem 886 (by decide +kernel) (by decide +kernel)
theorem ml_X1_15 : Cond.methodLink RX1 15 yX0_clearCabinet ∈ lw_g := am_mem 704 (by decide +kernel) (by decide +kernel)
theorem ml_X1_20 : Cond.methodLink RX1 20 yX7_start ∈ lw_g := am_mem 711 (by decide +kernel) (by decide +kernel)
theorem ml_X1_26 : Cond.methodLink RX1 26 yX7_failed ∈ lw_g := am_mem 712 (by decide +kernel) (by decide +kernel)
theorem ml_X1_30 : Cond.methodLink RX1 30 yX1_readLine ∈ lw_g := am_mem 713 (by decide +kernel) (by decide +kernel)
theorem ml_X1_34 : Cond.methodLink RX1 34 yX7_peek ∈ lw_g := am_mem 717 (by decide +kernel) (by decide +kernel)
theorem ml_X1_38 : Cond.methodLink RX1 38 yX7_expect ∈ lw_g := am_mem 752 (by decide +kernel) (by decide +kernel)
theorem ml_X1_45 : Cond.methodLink RX1 45 yX1_isDrawerLetter ∈ lw_g := am_mem 718 (by decide +kernel) (by decide +kernel)
theorem ml_X1_49 : Cond.methodLink RX1 49 yX7_failHere ∈ lw_g := am_mem 721 (by decide +kernel) (by decide +kernel)
theorem ml_X1_55 : Cond.methodLink RX1 55 yX1_readDrawer ∈ lw_g := am_mem 722 (by decide +kernel) (by decide +kernel)
theorem ml_X1_58 : Cond.methodLink RX1 58 yX1_readPaper ∈ lw_g := am_mem 738 (by decide +kernel) (by decide +kernel)
theorem ml_X1_61 : Cond.methodLink RX1 61 yX0_isTold ∈ lw_g := am_mem 726 (by decide +kernel) (by decide +kernel)
theorem ml_X1_64 : Cond.methodLink RX1 64 yX7_next ∈ lw_g := am_mem 727 (by decide +kernel) (by decide +kernel)
theorem ml_X1_67 : Cond.methodLink RX1 67 yX1_readRoom ∈ lw_g := am_mem 728 (by decide +kernel) (by decide +kernel)
theorem ml_X1_70 : Cond.methodLink RX1 70 yX0_tellDrawer ∈ lw_g := am_mem 734 (by decide +kernel) (by decide +kernel)
theorem ml_X1_77 : Cond.methodLink RX1 77 yX7_isDigit ∈ lw_g := am_mem 732 (by decide +kernel) (by decide +kernel)
theorem ml_X1_80 : Cond.methodLink RX1 80 yX7_fail ∈ lw_g := am_mem 733 (by decide +kernel) (by decide +kernel)
theorem ml_X1_83 : Cond.methodLink RX1 83 yX0_addPaper ∈ lw_g := am_mem 742 (by decide +kernel) (by decide +kernel)
theorem ml_X1_86 : Cond.methodLink RX1 86 yX1_readItsDrawer ∈ lw_g := am_mem 746 (by decide +kernel) (by decide +kernel)
theorem ml_X1_90 : Cond.methodLink RX1 90 yX0_fits ∈ lw_g := am_mem 750 (by decide +kernel) (by decide +kernel)
theorem ml_X1_94 : Cond.methodLink RX1 94 yX0_move ∈ lw_g := am_mem 751 (by decide +kernel) (by decide +kernel)
theorem ml_X2_27 : Cond.methodLink RX2 27 yX2_findStuck ∈ lw_g := am_mem 765 (by decide +kernel) (by decide +kernel)
theorem ml_X2_31 : Cond.methodLink RX2 31 yX2_putPapersIn ∈ lw_g := am_mem 799 (by decide +kernel) (by decide +kernel)
theorem ml_X2_34 : Cond.methodLink RX2 34 yX2_readPapers ∈ lw_g := am_mem 814 (by decide +kernel) (by decide +kernel)
theorem ml_X2_37 : Cond.methodLink RX2 37 yX0_isTold ∈ lw_g := am_mem 769 (by decide +kernel) (by decide +kernel)
theorem ml_X2_41 : Cond.methodLink RX2 41 yX0_draw ∈ lw_g := am_mem 770 (by decide +kernel) (by decide +kernel)
theorem ml_X2_45 : Cond.methodLink RX2 45 yX3_valueOf ∈ lw_g := am_mem 775 (by decide +kernel) (by decide +kernel)
theorem ml_X2_54 : Cond.methodLink RX2 54 yX0_isIn ∈ lw_g := am_mem 803 (by decide +kernel) (by decide +kernel)
theorem ml_X2_57 : Cond.methodLink RX2 57 yX2_mostWished ∈ lw_g := am_mem 807 (by decide +kernel) (by decide +kernel)
theorem ml_X2_61 : Cond.methodLink RX2 61 yX0_move ∈ lw_g := am_mem 813 (by decide +kernel) (by decide +kernel)
theorem ml_X2_65 : Cond.methodLink RX2 65 yX0_fits ∈ lw_g := am_mem 811 (by decide +kernel) (by decide +kernel)
theorem ml_X2_69 : Cond.methodLink RX2 69 yJ9_min_7cf53 ∈ lw_g := am_mem 812 (by decide +kernel) (by decide +kernel)
theorem ml_X3_40 : Cond.methodLink RX3 40 yX3_emit ∈ lw_g := am_mem 531 (by decide +kernel) (by decide +kernel)
theorem ml_X3_44 : Cond.methodLink RX3 44 yX3_emitPair ∈ lw_g := am_mem 682 (by decide +kernel) (by decide +kernel)
theorem ml_X3_48 : Cond.methodLink RX3 48 yX3_tellFacts ∈ lw_g := am_mem 779 (by decide +kernel) (by decide +kernel)
theorem ml_X3_52 : Cond.methodLink RX3 52 yX3_run ∈ lw_g := am_mem 785 (by decide +kernel) (by decide +kernel)
theorem ml_X3_56 : Cond.methodLink RX3 56 yX0_hasPaper ∈ lw_g := am_mem 783 (by decide +kernel) (by decide +kernel)
theorem ml_X3_62 : Cond.methodLink RX3 62 yX0_isTold ∈ lw_g := am_mem 784 (by decide +kernel) (by decide +kernel)
theorem ml_X3_89 : Cond.methodLink RX3 89 yX3_fact ∈ lw_g := am_mem 789 (by decide +kernel) (by decide +kernel)
theorem ml_X3_93 : Cond.methodLink RX3 93 yX3_isDivision ∈ lw_g := am_mem 793 (by decide +kernel) (by decide +kernel)
theorem ml_X3_96 : Cond.methodLink RX3 96 yX3_joined ∈ lw_g := am_mem 796 (by decide +kernel) (by decide +kernel)
theorem ml_X4_19 : Cond.methodLink RX4 19 yX3_clear ∈ lw_g := am_mem 491 (by decide +kernel) (by decide +kernel)
theorem ml_X4_24 : Cond.methodLink RX4 24 yX7_start ∈ lw_g := am_mem 495 (by decide +kernel) (by decide +kernel)
theorem ml_X4_30 : Cond.methodLink RX4 30 yX7_failed ∈ lw_g := am_mem 499 (by decide +kernel) (by decide +kernel)
theorem ml_X4_34 : Cond.methodLink RX4 34 yX4_readRule ∈ lw_g := am_mem 503 (by decide +kernel) (by decide +kernel)
theorem ml_X4_37 : Cond.methodLink RX4 37 yX7_peek ∈ lw_g := am_mem 507 (by decide +kernel) (by decide +kernel)
theorem ml_X4_41 : Cond.methodLink RX4 41 yX7_expect ∈ lw_g := am_mem 551 (by decide +kernel) (by decide +kernel)
theorem ml_X4_48 : Cond.methodLink RX4 48 yX7_failHere ∈ lw_g := am_mem 515 (by decide +kernel) (by decide +kernel)
theorem ml_X4_51 : Cond.methodLink RX4 51 yX7_next ∈ lw_g := am_mem 523 (by decide +kernel) (by decide +kernel)
theorem ml_X4_57 : Cond.methodLink RX4 57 yX3_emitPair ∈ lw_g := am_mem 527 (by decide +kernel) (by decide +kernel)
theorem ml_X4_61 : Cond.methodLink RX4 61 yX4_readSum ∈ lw_g := am_mem 535 (by decide +kernel) (by decide +kernel)
theorem ml_X4_64 : Cond.methodLink RX4 64 yX4_readChoice ∈ lw_g := am_mem 663 (by decide +kernel) (by decide +kernel)
theorem ml_X4_67 : Cond.methodLink RX4 67 yX3_addRule ∈ lw_g := am_mem 687 (by decide +kernel) (by decide +kernel)
theorem ml_X4_71 : Cond.methodLink RX4 71 yX4_readPart ∈ lw_g := am_mem 667 (by decide +kernel) (by decide +kernel)
theorem ml_X4_74 : Cond.methodLink RX4 74 yX3_emitJump ∈ lw_g := am_mem 678 (by decide +kernel) (by decide +kernel)
theorem ml_X4_78 : Cond.methodLink RX4 78 yX3_land ∈ lw_g := am_mem 683 (by decide +kernel) (by decide +kernel)
theorem ml_X4_81 : Cond.methodLink RX4 81 yX4_readTest ∈ lw_g := am_mem 671 (by decide +kernel) (by decide +kernel)
theorem ml_X4_84 : Cond.methodLink RX4 84 yX4_opens ∈ lw_g := am_mem 547 (by decide +kernel) (by decide +kernel)
theorem ml_X4_88 : Cond.methodLink RX4 88 yX3_emit ∈ lw_g := am_mem 659 (by decide +kernel) (by decide +kernel)
theorem ml_X4_91 : Cond.methodLink RX4 91 yX4_isComparison ∈ lw_g := am_mem 675 (by decide +kernel) (by decide +kernel)
theorem ml_X4_94 : Cond.methodLink RX4 94 yX4_readTerm ∈ lw_g := am_mem 539 (by decide +kernel) (by decide +kernel)
theorem ml_X4_97 : Cond.methodLink RX4 97 yX4_isSumSign ∈ lw_g := am_mem 660 (by decide +kernel) (by decide +kernel)
theorem ml_X4_100 : Cond.methodLink RX4 100 yX4_readFactor ∈ lw_g := am_mem 543 (by decide +kernel) (by decide +kernel)
theorem ml_X4_103 : Cond.methodLink RX4 103 yX4_isTermSign ∈ lw_g := am_mem 656 (by decide +kernel) (by decide +kernel)
theorem ml_X4_106 : Cond.methodLink RX4 106 yX7_isDigit ∈ lw_g := am_mem 558 (by decide +kernel) (by decide +kernel)
theorem ml_X4_109 : Cond.methodLink RX4 109 yX4_readNumber ∈ lw_g := am_mem 561 (by decide +kernel) (by decide +kernel)
theorem ml_X4_112 : Cond.methodLink RX4 112 yX4_readFact ∈ lw_g := am_mem 565 (by decide +kernel) (by decide +kernel)
theorem ml_X4_117 : Cond.methodLink RX4 117 yJ0_indexOf_0f7a4 ∈ lw_g := am_mem 570 (by decide +kernel) (by decide +kernel)
theorem ml_X5_29 : Cond.methodLink RX5 29 yX5_isSound ∈ lw_g := am_mem 981 (by decide +kernel) (by decide +kernel)
theorem ml_X5_33 : Cond.methodLink RX5 33 yX5_walk ∈ lw_g := am_mem 986 (by decide +kernel) (by decide +kernel)
theorem ml_X5_37 : Cond.methodLink RX5 37 yX9_at ∈ lw_g := am_mem 985 (by decide +kernel) (by decide +kernel)
theorem ml_X5_43 : Cond.methodLink RX5 43 yJ7_fill_53178 ∈ lw_g := am_mem 990 (by decide +kernel) (by decide +kernel)
theorem ml_X5_49 : Cond.methodLink RX5 49 yX5_canMove ∈ lw_g := am_mem 991 (by decide +kernel) (by decide +kernel)
theorem ml_X5_53 : Cond.methodLink RX5 53 yX5_reach ∈ lw_g := am_mem 995 (by decide +kernel) (by decide +kernel)
theorem ml_X6_37 : Cond.methodLink RX6 37 yX6_sortRooms ∈ lw_g := am_mem 867 (by decide +kernel) (by decide +kernel)
theorem ml_X6_41 : Cond.methodLink RX6 41 yJ7_fill_53178 ∈ lw_g := am_mem 872 (by decide +kernel) (by decide +kernel)
theorem ml_X6_50 : Cond.methodLink RX6 50 yX6_packOne ∈ lw_g := am_mem 873 (by decide +kernel) (by decide +kernel)
theorem ml_X6_54 : Cond.methodLink RX6 54 yJ9_min_7cf53 ∈ lw_g := am_mem 877 (by decide +kernel) (by decide +kernel)
theorem ml_X6_60 : Cond.methodLink RX6 60 yX0_isTold ∈ lw_g := am_mem 871 (by decide +kernel) (by decide +kernel)
theorem ml_X6_67 : Cond.methodLink RX6 67 yX6_goesUnder ∈ lw_g := am_mem 1007 (by decide +kernel) (by decide +kernel)
theorem ml_X6_71 : Cond.methodLink RX6 71 yJ9_max_7cf53 ∈ lw_g := am_mem 1012 (by decide +kernel) (by decide +kernel)
theorem ml_X6_74 : Cond.methodLink RX6 74 yX9_at ∈ lw_g := am_mem 1011 (by decide +kernel) (by decide +kernel)
theorem ml_X6_80 : Cond.methodLink RX6 80 yX6_longestRound ∈ lw_g := am_mem 1037 (by decide +kernel) (by decide +kernel)
theorem ml_X6_83 : Cond.methodLink RX6 83 yX6_layOne ∈ lw_g := am_mem 1049 (by decide +kernel) (by decide +kernel)
theorem ml_X6_93 : Cond.methodLink RX6 93 yX6_largestKingdom ∈ lw_g := am_mem 1062 (by decide +kernel) (by decide +kernel)
theorem ml_X6_96 : Cond.methodLink RX6 96 yX6_layLine ∈ lw_g := am_mem 1074 (by decide +kernel) (by decide +kernel)
theorem ml_X6_100 : Cond.methodLink RX6 100 yX6_waitOf ∈ lw_g := am_mem 1086 (by decide +kernel) (by decide +kernel)
theorem ml_X7_25 : Cond.methodLink RX7 25 yX9_at ∈ lw_g := am_mem 511 (by decide +kernel) (by decide +kernel)
theorem ml_X7_29 : Cond.methodLink RX7 29 yX7_fail ∈ lw_g := am_mem 519 (by decide +kernel) (by decide +kernel)
theorem ml_X7_33 : Cond.methodLink RX7 33 yX7_peek ∈ lw_g := am_mem 555 (by decide +kernel) (by decide +kernel)
theorem ml_X7_37 : Cond.methodLink RX7 37 yX7_next ∈ lw_g := am_mem 556 (by decide +kernel) (by decide +kernel)
theorem ml_X7_40 : Cond.methodLink RX7 40 yX7_failHere ∈ lw_g := am_mem 557 (by decide +kernel) (by decide +kernel)
theorem ml_X8_24 : Cond.methodLink RX8 24 yX7_start ∈ lw_g := am_mem 920 (by decide +kernel) (by decide +kernel)
theorem ml_X8_30 : Cond.methodLink RX8 30 yX8_readRow ∈ lw_g := am_mem 921 (by decide +kernel) (by decide +kernel)
theorem ml_X8_33 : Cond.methodLink RX8 33 yX7_failed ∈ lw_g := am_mem 943 (by decide +kernel) (by decide +kernel)
theorem ml_X8_40 : Cond.methodLink RX8 40 yX8_readOne ∈ lw_g := am_mem 925 (by decide +kernel) (by decide +kernel)
theorem ml_X8_43 : Cond.methodLink RX8 43 yX7_peek ∈ lw_g := am_mem 929 (by decide +kernel) (by decide +kernel)
theorem ml_X8_50 : Cond.methodLink RX8 50 yX7_isDigit ∈ lw_g := am_mem 930 (by decide +kernel) (by decide +kernel)
theorem ml_X8_54 : Cond.methodLink RX8 54 yX7_next ∈ lw_g := am_mem 931 (by decide +kernel) (by decide +kernel)
theorem ml_X8_57 : Cond.methodLink RX8 57 yX8_add ∈ lw_g := am_mem 932 (by decide +kernel) (by decide +kernel)
theorem ml_X8_61 : Cond.methodLink RX8 61 yX7_failHere ∈ lw_g := am_mem 937 (by decide +kernel) (by decide +kernel)
theorem ml_X8_64 : Cond.methodLink RX8 64 yX7_expect ∈ lw_g := am_mem 938 (by decide +kernel) (by decide +kernel)
theorem ml_X8_67 : Cond.methodLink RX8 67 yX8_repeat ∈ lw_g := am_mem 939 (by decide +kernel) (by decide +kernel)
theorem ml_X8_71 : Cond.methodLink RX8 71 yX7_fail ∈ lw_g := am_mem 936 (by decide +kernel) (by decide +kernel)
theorem ml_X8_74 : Cond.methodLink RX8 74 yX8_mostOften ∈ lw_g := am_mem 948 (by decide +kernel) (by decide +kernel)
theorem ml_X8_77 : Cond.methodLink RX8 77 yX8_bestShift ∈ lw_g := am_mem 953 (by decide +kernel) (by decide +kernel)
theorem ml_X8_80 : Cond.methodLink RX8 80 yX8_isSameFromBehind ∈ lw_g := am_mem 964 (by decide +kernel) (by decide +kernel)
theorem ml_X8_84 : Cond.methodLink RX8 84 yX8_longestSameFromBehind ∈ lw_g := am_mem 968 (by decide +kernel) (by decide +kernel)
theorem ml_X8_87 : Cond.methodLink RX8 87 yX8_vowelsShifted ∈ lw_g := am_mem 957 (by decide +kernel) (by decide +kernel)
theorem ml_X8_91 : Cond.methodLink RX8 91 yJ7_fill_53178 ∈ lw_g := am_mem 952 (by decide +kernel) (by decide +kernel)
theorem ml_X8_97 : Cond.methodLink RX8 97 yX8_isVowel ∈ lw_g := am_mem 961 (by decide +kernel) (by decide +kernel)
theorem ml_X8_100 : Cond.methodLink RX8 100 yJ9_min_7cf53 ∈ lw_g := am_mem 972 (by decide +kernel) (by decide +kernel)
theorem ml_L_9 : Cond.methodLink RL 9 yX10_init ∈ lw_g := am_mem 131 (by decide +kernel) (by decide +kernel)
theorem ml_L_12 : Cond.methodLink RL 12 yX11_init ∈ lw_g := am_mem 1148 (by decide +kernel) (by decide +kernel)
theorem ml_L_13 : Cond.methodLink RL 13 yX10_put ∈ lw_g := am_mem 433 (by decide +kernel) (by decide +kernel)
theorem ml_L_17 : Cond.methodLink RL 17 yX11_put ∈ lw_g := am_mem 1339 (by decide +kernel) (by decide +kernel)
theorem ml_L_18 : Cond.methodLink RL 18 yX10_feed ∈ lw_g := am_mem 464 (by decide +kernel) (by decide +kernel)
theorem ml_L_22 : Cond.methodLink RL 22 yX11_feed ∈ lw_g := am_mem 1369 (by decide +kernel) (by decide +kernel)
theorem ml_L_23 : Cond.methodLink RL 23 yX10_law ∈ lw_g := am_mem 476 (by decide +kernel) (by decide +kernel)
theorem ml_L_27 : Cond.methodLink RL 27 yX11_law ∈ lw_g := am_mem 1377 (by decide +kernel) (by decide +kernel)
theorem ml_L_28 : Cond.methodLink RL 28 yX10_cabinet ∈ lw_g := am_mem 696 (by decide +kernel) (by decide +kernel)
theorem ml_L_31 : Cond.methodLink RL 31 yX11_cabinet ∈ lw_g := am_mem 1464 (by decide +kernel) (by decide +kernel)
theorem ml_L_32 : Cond.methodLink RL 32 yX10_days ∈ lw_g := am_mem 757 (by decide +kernel) (by decide +kernel)
theorem ml_L_35 : Cond.methodLink RL 35 yX11_days ∈ lw_g := am_mem 1480 (by decide +kernel) (by decide +kernel)
theorem ml_L_36 : Cond.methodLink RL 36 yX10_tried ∈ lw_g := am_mem 818 (by decide +kernel) (by decide +kernel)
theorem ml_L_40 : Cond.methodLink RL 40 yX11_tried ∈ lw_g := am_mem 1538 (by decide +kernel) (by decide +kernel)
theorem ml_L_41 : Cond.methodLink RL 41 yX10_drawerIs ∈ lw_g := am_mem 846 (by decide +kernel) (by decide +kernel)
theorem ml_L_44 : Cond.methodLink RL 44 yX11_drawerIs ∈ lw_g := am_mem 1552 (by decide +kernel) (by decide +kernel)
theorem ml_L_45 : Cond.methodLink RL 45 yX10_paperIs ∈ lw_g := am_mem 851 (by decide +kernel) (by decide +kernel)
theorem ml_L_48 : Cond.methodLink RL 48 yX11_paperIs ∈ lw_g := am_mem 1556 (by decide +kernel) (by decide +kernel)
theorem ml_L_49 : Cond.methodLink RL 49 yX10_shut ∈ lw_g := am_mem 855 (by decide +kernel) (by decide +kernel)
theorem ml_L_52 : Cond.methodLink RL 52 yX11_shut ∈ lw_g := am_mem 1560 (by decide +kernel) (by decide +kernel)
theorem ml_L_53 : Cond.methodLink RL 53 yX10_fewest ∈ lw_g := am_mem 859 (by decide +kernel) (by decide +kernel)
theorem ml_L_57 : Cond.methodLink RL 57 yX11_fewest ∈ lw_g := am_mem 1564 (by decide +kernel) (by decide +kernel)
theorem ml_L_58 : Cond.methodLink RL 58 yX10_free ∈ lw_g := am_mem 878 (by decide +kernel) (by decide +kernel)
theorem ml_L_61 : Cond.methodLink RL 61 yX11_free ∈ lw_g := am_mem 1573 (by decide +kernel) (by decide +kernel)
theorem ml_L_62 : Cond.methodLink RL 62 yX10_ofSubject ∈ lw_g := am_mem 891 (by decide +kernel) (by decide +kernel)
theorem ml_L_65 : Cond.methodLink RL 65 yX11_ofSubject ∈ lw_g := am_mem 1577 (by decide +kernel) (by decide +kernel)
theorem ml_L_66 : Cond.methodLink RL 66 yX10_oldest ∈ lw_g := am_mem 904 (by decide +kernel) (by decide +kernel)
theorem ml_L_69 : Cond.methodLink RL 69 yX11_oldest ∈ lw_g := am_mem 1581 (by decide +kernel) (by decide +kernel)
theorem ml_L_70 : Cond.methodLink RL 70 yX10_slip ∈ lw_g := am_mem 912 (by decide +kernel) (by decide +kernel)
theorem ml_L_73 : Cond.methodLink RL 73 yX11_slip ∈ lw_g := am_mem 1585 (by decide +kernel) (by decide +kernel)
theorem ml_L_74 : Cond.methodLink RL 74 yX10_secret ∈ lw_g := am_mem 973 (by decide +kernel) (by decide +kernel)
theorem ml_L_78 : Cond.methodLink RL 78 yX11_secret ∈ lw_g := am_mem 1628 (by decide +kernel) (by decide +kernel)
theorem ml_L_79 : Cond.methodLink RL 79 yX10_nest ∈ lw_g := am_mem 999 (by decide +kernel) (by decide +kernel)
theorem ml_L_82 : Cond.methodLink RL 82 yX11_nest ∈ lw_g := am_mem 1644 (by decide +kernel) (by decide +kernel)
theorem ml_L_83 : Cond.methodLink RL 83 yX10_dusted ∈ lw_g := am_mem 1013 (by decide +kernel) (by decide +kernel)
theorem ml_L_86 : Cond.methodLink RL 86 yX11_dusted ∈ lw_g := am_mem 1652 (by decide +kernel) (by decide +kernel)
theorem ml_L_87 : Cond.methodLink RL 87 yX10_balanced ∈ lw_g := am_mem 1021 (by decide +kernel) (by decide +kernel)
theorem ml_L_90 : Cond.methodLink RL 90 yX11_balanced ∈ lw_g := am_mem 1656 (by decide +kernel) (by decide +kernel)
theorem ml_L_91 : Cond.methodLink RL 91 yX10_pigeonholes ∈ lw_g := am_mem 1029 (by decide +kernel) (by decide +kernel)
theorem ml_L_94 : Cond.methodLink RL 94 yX11_pigeonholes ∈ lw_g := am_mem 1660 (by decide +kernel) (by decide +kernel)
theorem ml_L_95 : Cond.methodLink RL 95 yX10_planked ∈ lw_g := am_mem 1041 (by decide +kernel) (by decide +kernel)
theorem ml_L_98 : Cond.methodLink RL 98 yX11_planked ∈ lw_g := am_mem 1667 (by decide +kernel) (by decide +kernel)
theorem ml_L_99 : Cond.methodLink RL 99 yX10_unions ∈ lw_g := am_mem 1054 (by decide +kernel) (by decide +kernel)
theorem ml_L_102 : Cond.methodLink RL 102 yX11_unions ∈ lw_g := am_mem 1675 (by decide +kernel) (by decide +kernel)
theorem ml_L_103 : Cond.methodLink RL 103 yX10_heirs ∈ lw_g := am_mem 1066 (by decide +kernel) (by decide +kernel)
theorem ml_L_106 : Cond.methodLink RL 106 yX11_heirs ∈ lw_g := am_mem 1683 (by decide +kernel) (by decide +kernel)
theorem ml_L_107 : Cond.methodLink RL 107 yX10_heard ∈ lw_g := am_mem 1078 (by decide +kernel) (by decide +kernel)
theorem ml_L_110 : Cond.methodLink RL 110 yX11_heard ∈ lw_g := am_mem 1699 (by decide +kernel) (by decide +kernel)
theorem ml_L_111 : Cond.methodLink RL 111 yX10_ticks ∈ lw_g := am_mem 1094 (by decide +kernel) (by decide +kernel)
theorem ml_L_114 : Cond.methodLink RL 114 yX11_ticks ∈ lw_g := am_mem 1711 (by decide +kernel) (by decide +kernel)
theorem ml_L_115 : Cond.methodLink RL 115 yX10_seed ∈ lw_g := am_mem 1101 (by decide +kernel) (by decide +kernel)
theorem ml_L_119 : Cond.methodLink RL 119 yX11_seed ∈ lw_g := am_mem 1715 (by decide +kernel) (by decide +kernel)
theorem ml_L_120 : Cond.methodLink RL 120 yX10_keep ∈ lw_g := am_mem 1106 (by decide +kernel) (by decide +kernel)
theorem ml_L_123 : Cond.methodLink RL 123 yX11_keep ∈ lw_g := am_mem 1720 (by decide +kernel) (by decide +kernel)
theorem ml_L_124 : Cond.methodLink RL 124 yX10_undo ∈ lw_g := am_mem 1110 (by decide +kernel) (by decide +kernel)
theorem ml_L_128 : Cond.methodLink RL 128 yX11_undo ∈ lw_g := am_mem 1724 (by decide +kernel) (by decide +kernel)
theorem ml_L_129 : Cond.methodLink RL 129 yX10_check ∈ lw_g := am_mem 1121 (by decide +kernel) (by decide +kernel)
theorem ml_L_132 : Cond.methodLink RL 132 yX11_check ∈ lw_g := am_mem 1728 (by decide +kernel) (by decide +kernel)
theorem ml_L_133 : Cond.methodLink RL 133 yX10_count ∈ lw_g := am_mem 1130 (by decide +kernel) (by decide +kernel)
theorem ml_L_136 : Cond.methodLink RL 136 yX11_count ∈ lw_g := am_mem 1732 (by decide +kernel) (by decide +kernel)
theorem ml_X11_125 : Cond.methodLink RX11 125 yX11_in ∈ lw_g := am_mem 1347 (by decide +kernel) (by decide +kernel)
theorem ml_X11_133 : Cond.methodLink RX11 133 yX11_has ∈ lw_g := am_mem 1358 (by decide +kernel) (by decide +kernel)
theorem ml_X11_140 : Cond.methodLink RX11 140 yX11_fullOf ∈ lw_g := am_mem 1365 (by decide +kernel) (by decide +kernel)
theorem ml_X11_144 : Cond.methodLink RX11 144 yX11_isPaper ∈ lw_g := am_mem 1343 (by decide +kernel) (by decide +kernel)
theorem ml_X11_148 : Cond.methodLink RX11 148 yX11_takesOut ∈ lw_g := am_mem 1350 (by decide +kernel) (by decide +kernel)
theorem ml_X11_152 : Cond.methodLink RX11 152 yX11_isDrawer ∈ lw_g := am_mem 1354 (by decide +kernel) (by decide +kernel)
theorem ml_X11_155 : Cond.methodLink RX11 155 yX11_roomLeft ∈ lw_g := am_mem 1361 (by decide +kernel) (by decide +kernel)
theorem ml_X11_161 : Cond.methodLink RX11 161 yX11_types ∈ lw_g := am_mem 1373 (by decide +kernel) (by decide +kernel)
theorem ml_X11_170 : Cond.methodLink RX11 170 yX11_here ∈ lw_g := am_mem 1389 (by decide +kernel) (by decide +kernel)
theorem ml_X11_177 : Cond.methodLink RX11 177 yX11_wrongAt ∈ lw_g := am_mem 1393 (by decide +kernel) (by decide +kernel)
theorem ml_X11_183 : Cond.methodLink RX11 183 yX11_isDigit ∈ lw_g := am_mem 1410 (by decide +kernel) (by decide +kernel)
theorem ml_X11_197 : Cond.methodLink RX11 197 yX11_waitTop ∈ lw_g := am_mem 1432 (by decide +kernel) (by decide +kernel)
theorem ml_X11_200 : Cond.methodLink RX11 200 yX11_notes ∈ lw_g := am_mem 1418 (by decide +kernel) (by decide +kernel)
theorem ml_X11_204 : Cond.methodLink RX11 204 yX11_opens ∈ lw_g := am_mem 1405 (by decide +kernel) (by decide +kernel)
theorem ml_X11_207 : Cond.methodLink RX11 207 yX11_readsNumber ∈ lw_g := am_mem 1414 (by decide +kernel) (by decide +kernel)
theorem ml_X11_210 : Cond.methodLink RX11 210 yX11_factOf ∈ lw_g := am_mem 1422 (by decide +kernel) (by decide +kernel)
theorem ml_X11_213 : Cond.methodLink RX11 213 yX11_readsFactor ∈ lw_g := am_mem 1401 (by decide +kernel) (by decide +kernel)
theorem ml_X11_216 : Cond.methodLink RX11 216 yX11_sumSign ∈ lw_g := am_mem 1425 (by decide +kernel) (by decide +kernel)
theorem ml_X11_219 : Cond.methodLink RX11 219 yX11_closesSums ∈ lw_g := am_mem 1428 (by decide +kernel) (by decide +kernel)
theorem ml_X11_223 : Cond.methodLink RX11 223 yX11_hasOpenSum ∈ lw_g := am_mem 1436 (by decide +kernel) (by decide +kernel)
theorem ml_X11_226 : Cond.methodLink RX11 226 yX11_readsSum ∈ lw_g := am_mem 1397 (by decide +kernel) (by decide +kernel)
theorem ml_X11_229 : Cond.methodLink RX11 229 yX11_endsPiece ∈ lw_g := am_mem 1448 (by decide +kernel) (by decide +kernel)
theorem ml_X11_232 : Cond.methodLink RX11 232 yX11_readsCompared ∈ lw_g := am_mem 1444 (by decide +kernel) (by decide +kernel)
theorem ml_X11_235 : Cond.methodLink RX11 235 yX11_lands ∈ lw_g := am_mem 1452 (by decide +kernel) (by decide +kernel)
theorem ml_X11_238 : Cond.methodLink RX11 238 yX11_jumps ∈ lw_g := am_mem 1456 (by decide +kernel) (by decide +kernel)
theorem ml_X11_244 : Cond.methodLink RX11 244 yX11_readsCondition ∈ lw_g := am_mem 1440 (by decide +kernel) (by decide +kernel)
theorem ml_X11_247 : Cond.methodLink RX11 247 yX11_beginsText ∈ lw_g := am_mem 1381 (by decide +kernel) (by decide +kernel)
theorem ml_X11_250 : Cond.methodLink RX11 250 yX11_readsRule ∈ lw_g := am_mem 1385 (by decide +kernel) (by decide +kernel)
theorem ml_X11_253 : Cond.methodLink RX11 253 yX11_takes ∈ lw_g := am_mem 1460 (by decide +kernel) (by decide +kernel)
theorem ml_X11_259 : Cond.methodLink RX11 259 yX11_reckon ∈ lw_g := am_mem 1516 (by decide +kernel) (by decide +kernel)
theorem ml_X11_263 : Cond.methodLink RX11 263 yX11_reckonsTo ∈ lw_g := am_mem 1512 (by decide +kernel) (by decide +kernel)
theorem ml_X11_276 : Cond.methodLink RX11 276 yX11_readsPaper ∈ lw_g := am_mem 1472 (by decide +kernel) (by decide +kernel)
theorem ml_X11_279 : Cond.methodLink RX11 279 yX11_readsRoom ∈ lw_g := am_mem 1476 (by decide +kernel) (by decide +kernel)
theorem ml_X11_282 : Cond.methodLink RX11 282 yX11_readsLine ∈ lw_g := am_mem 1468 (by decide +kernel) (by decide +kernel)
theorem ml_X11_286 : Cond.methodLink RX11 286 yX11_papersIn ∈ lw_g := am_mem 1501 (by decide +kernel) (by decide +kernel)
theorem ml_X11_289 : Cond.methodLink RX11 289 yX11_bits ∈ lw_g := am_mem 1505 (by decide +kernel) (by decide +kernel)
theorem ml_X11_292 : Cond.methodLink RX11 292 yX11_feelsDrawer ∈ lw_g := am_mem 1497 (by decide +kernel) (by decide +kernel)
theorem ml_X11_298 : Cond.methodLink RX11 298 yX11_feelsPaper ∈ lw_g := am_mem 1523 (by decide +kernel) (by decide +kernel)
theorem ml_X11_302 : Cond.methodLink RX11 302 yX11_byLaw ∈ lw_g := am_mem 1527 (by decide +kernel) (by decide +kernel)
theorem ml_X11_308 : Cond.methodLink RX11 308 yX11_draws ∈ lw_g := am_mem 1492 (by decide +kernel) (by decide +kernel)
theorem ml_X11_314 : Cond.methodLink RX11 314 yX11_min ∈ lw_g := am_mem 1535 (by decide +kernel) (by decide +kernel)
theorem ml_X11_317 : Cond.methodLink RX11 317 yX11_holdsAny ∈ lw_g := am_mem 1508 (by decide +kernel) (by decide +kernel)
theorem ml_X11_320 : Cond.methodLink RX11 320 yX11_goesIn ∈ lw_g := am_mem 1519 (by decide +kernel) (by decide +kernel)
theorem ml_X11_323 : Cond.methodLink RX11 323 yX11_isPeeped ∈ lw_g := am_mem 1531 (by decide +kernel) (by decide +kernel)
theorem ml_X11_326 : Cond.methodLink RX11 326 yX11_dayGoes ∈ lw_g := am_mem 1488 (by decide +kernel) (by decide +kernel)
theorem ml_X11_329 : Cond.methodLink RX11 329 yX11_daysGo ∈ lw_g := am_mem 1484 (by decide +kernel) (by decide +kernel)
theorem ml_X11_332 : Cond.methodLink RX11 332 yX11_copies ∈ lw_g := am_mem 1542 (by decide +kernel) (by decide +kernel)
theorem ml_X11_336 : Cond.methodLink RX11 336 yX11_readSet ∈ lw_g := am_mem 1545 (by decide +kernel) (by decide +kernel)
theorem ml_X11_339 : Cond.methodLink RX11 339 yX11_orNone ∈ lw_g := am_mem 1549 (by decide +kernel) (by decide +kernel)
theorem ml_X11_343 : Cond.methodLink RX11 343 yX11_laysSums ∈ lw_g := am_mem 1568 (by decide +kernel) (by decide +kernel)
theorem ml_X11_355 : Cond.methodLink RX11 355 yX11_readsTimes ∈ lw_g := am_mem 1593 (by decide +kernel) (by decide +kernel)
theorem ml_X11_361 : Cond.methodLink RX11 361 yX11_repeats ∈ lw_g := am_mem 1597 (by decide +kernel) (by decide +kernel)
theorem ml_X11_364 : Cond.methodLink RX11 364 yX11_oftenOf ∈ lw_g := am_mem 1605 (by decide +kernel) (by decide +kernel)
theorem ml_X11_367 : Cond.methodLink RX11 367 yX11_vowelsBy ∈ lw_g := am_mem 1613 (by decide +kernel) (by decide +kernel)
theorem ml_X11_370 : Cond.methodLink RX11 370 yX11_isLike ∈ lw_g := am_mem 1617 (by decide +kernel) (by decide +kernel)
theorem ml_X11_373 : Cond.methodLink RX11 373 yX11_max ∈ lw_g := am_mem 1625 (by decide +kernel) (by decide +kernel)
theorem ml_X11_376 : Cond.methodLink RX11 376 yX11_readsLetter ∈ lw_g := am_mem 1589 (by decide +kernel) (by decide +kernel)
theorem ml_X11_379 : Cond.methodLink RX11 379 yX11_mostOften ∈ lw_g := am_mem 1601 (by decide +kernel) (by decide +kernel)
theorem ml_X11_382 : Cond.methodLink RX11 382 yX11_bestShift ∈ lw_g := am_mem 1609 (by decide +kernel) (by decide +kernel)
theorem ml_X11_385 : Cond.methodLink RX11 385 yX11_longestLike ∈ lw_g := am_mem 1621 (by decide +kernel) (by decide +kernel)
theorem ml_X11_388 : Cond.methodLink RX11 388 yX11_octet ∈ lw_g := am_mem 1632 (by decide +kernel) (by decide +kernel)
theorem ml_X11_391 : Cond.methodLink RX11 391 yX11_canMove ∈ lw_g := am_mem 1640 (by decide +kernel) (by decide +kernel)
theorem ml_X11_394 : Cond.methodLink RX11 394 yX11_laysMoves ∈ lw_g := am_mem 1636 (by decide +kernel) (by decide +kernel)
theorem ml_X11_397 : Cond.methodLink RX11 397 yX11_isLess ∈ lw_g := am_mem 1648 (by decide +kernel) (by decide +kernel)
theorem ml_X11_400 : Cond.methodLink RX11 400 yX11_longestRow ∈ lw_g := am_mem 1664 (by decide +kernel) (by decide +kernel)
theorem ml_X11_403 : Cond.methodLink RX11 403 yX11_laysSquare ∈ lw_g := am_mem 1671 (by decide +kernel) (by decide +kernel)
theorem ml_X11_406 : Cond.methodLink RX11 406 yX11_piecesOf ∈ lw_g := am_mem 1679 (by decide +kernel) (by decide +kernel)
theorem ml_X11_409 : Cond.methodLink RX11 409 yX11_nextHeir ∈ lw_g := am_mem 1695 (by decide +kernel) (by decide +kernel)
theorem ml_X11_412 : Cond.methodLink RX11 412 yX11_fromWhom ∈ lw_g := am_mem 1687 (by decide +kernel) (by decide +kernel)
theorem ml_X11_415 : Cond.methodLink RX11 415 yX11_laysLine ∈ lw_g := am_mem 1691 (by decide +kernel) (by decide +kernel)
theorem ml_X11_418 : Cond.methodLink RX11 418 yX11_isAhead ∈ lw_g := am_mem 1707 (by decide +kernel) (by decide +kernel)
theorem ml_X11_421 : Cond.methodLink RX11 421 yX11_beginsAt ∈ lw_g := am_mem 1703 (by decide +kernel) (by decide +kernel)
theorem ml_X11_432 : Cond.methodLink RX11 432 yX11_sumUp ∈ lw_g := am_mem 1736 (by decide +kernel) (by decide +kernel)
theorem ml_J0_335 : Cond.methodLink RJ0 335 yJ0_coder_7d493 ∈ lw_g := am_mem 588 (by decide +kernel) (by decide +kernel)
theorem ml_J0_492 : Cond.methodLink RJ0 492 yJ0_isLatin1_aae02 ∈ lw_g := am_mem 578 (by decide +kernel) (by decide +kernel)
theorem ml_J0_505 : Cond.methodLink RJ0 505 yJ0_length_8abf5 ∈ lw_g := am_mem 584 (by decide +kernel) (by decide +kernel)
theorem ml_J0_633 : Cond.methodLink RJ0 633 yJ0_indexOf_7cf53 ∈ lw_g := am_mem 574 (by decide +kernel) (by decide +kernel)
theorem ml_J0_637 : Cond.methodLink RJ0 637 yJ1_indexOf_4cfef ∈ lw_g := am_mem 592 (by decide +kernel) (by decide +kernel)
theorem ml_J0_640 : Cond.methodLink RJ0 640 yJ2_indexOf_4cfef ∈ lw_g := am_mem 607 (by decide +kernel) (by decide +kernel)
theorem ml_J0_1062 : Cond.methodLink RJ0 1062 yJ3_checkFromToIndex_8c36e ∈ lw_g := am_mem 627 (by decide +kernel) (by decide +kernel)
theorem ml_J1_38 : Cond.methodLink RJ1 38 yJ9_min_7cf53 ∈ lw_g := am_mem 601 (by decide +kernel) (by decide +kernel)
theorem ml_J1_88 : Cond.methodLink RJ1 88 yJ1_canEncode_9a6ad ∈ lw_g := am_mem 595 (by decide +kernel) (by decide +kernel)
theorem ml_J1_92 : Cond.methodLink RJ1 92 yJ9_max_7cf53 ∈ lw_g := am_mem 598 (by decide +kernel) (by decide +kernel)
theorem ml_J1_95 : Cond.methodLink RJ1 95 yJ1_indexOfChar_4cfef ∈ lw_g := am_mem 604 (by decide +kernel) (by decide +kernel)
theorem ml_J2_48 : Cond.methodLink RJ2 48 yJ2_length_9d52b ∈ lw_g := am_mem 619 (by decide +kernel) (by decide +kernel)
theorem ml_J2_71 : Cond.methodLink RJ2 71 yJ2_getChar_3b067 ∈ lw_g := am_mem 633 (by decide +kernel) (by decide +kernel)
theorem ml_J2_96 : Cond.methodLink RJ2 96 yJ2_checkBoundsBeginEnd_d044e ∈ lw_g := am_mem 616 (by decide +kernel) (by decide +kernel)
theorem ml_J2_157 : Cond.methodLink RJ2 157 yJ11_highSurrogate_5068e ∈ lw_g := am_mem 648 (by decide +kernel) (by decide +kernel)
theorem ml_J2_161 : Cond.methodLink RJ2 161 yJ11_lowSurrogate_5068e ∈ lw_g := am_mem 652 (by decide +kernel) (by decide +kernel)
theorem ml_J2_164 : Cond.methodLink RJ2 164 yJ11_isValidCodePoint_9a6ad ∈ lw_g := am_mem 645 (by decide +kernel) (by decide +kernel)
theorem ml_J2_183 : Cond.methodLink RJ2 183 yJ9_min_7cf53 ∈ lw_g := am_mem 611 (by decide +kernel) (by decide +kernel)
theorem ml_J2_224 : Cond.methodLink RJ2 224 yJ9_max_7cf53 ∈ lw_g := am_mem 610 (by decide +kernel) (by decide +kernel)
theorem ml_J2_228 : Cond.methodLink RJ2 228 yJ2_indexOfChar_4cfef ∈ lw_g := am_mem 613 (by decide +kernel) (by decide +kernel)
theorem ml_J2_232 : Cond.methodLink RJ2 232 yJ2_indexOfSupplementary_4cfef ∈ lw_g := am_mem 642 (by decide +kernel) (by decide +kernel)
theorem ml_J2_241 : Cond.methodLink RJ2 241 yJ0_checkBoundsBeginEnd_23922 ∈ lw_g := am_mem 622 (by decide +kernel) (by decide +kernel)
theorem ml_J2_244 : Cond.methodLink RJ2 244 yJ2_indexOfCharUnsafe_4cfef ∈ lw_g := am_mem 630 (by decide +kernel) (by decide +kernel)
theorem mm_max_s : Cond.static Lib.Math.max.name ∈ lw_g := am_mem 599 (by decide +kernel) (by decide +kernel)
set_option maxRecDepth 100000 in
theorem mm_max_c : Cond.code Lib.Math.max.name Lib.Math.max.code 2 (some .int) ∈ lw_g := am_mem 600 (by decide +kernel) (by decide +kernel)
theorem mk_max_X6_71 : Cond.methodLink RX6 71 Lib.Math.max.name ∈ lw_g := am_mem 1012 (by decide +kernel) (by decide +kernel)
theorem mm_min_s : Cond.static Lib.Math.min.name ∈ lw_g := am_mem 602 (by decide +kernel) (by decide +kernel)
set_option maxRecDepth 100000 in
theorem mm_min_c : Cond.code Lib.Math.min.name Lib.Math.min.code 2 (some .int) ∈ lw_g := am_mem 603 (by decide +kernel) (by decide +kernel)
theorem mk_min_X0_77 : Cond.methodLink RX0 77 Lib.Math.min.name ∈ lw_g := am_mem 1118 (by decide +kernel) (by decide +kernel)
theorem mk_min_X2_69 : Cond.methodLink RX2 69 Lib.Math.min.name ∈ lw_g := am_mem 812 (by decide +kernel) (by decide +kernel)
theorem mk_min_X6_54 : Cond.methodLink RX6 54 Lib.Math.min.name ∈ lw_g := am_mem 877 (by decide +kernel) (by decide +kernel)
theorem mk_min_X8_100 : Cond.methodLink RX8 100 Lib.Math.min.name ∈ lw_g := am_mem 972 (by decide +kernel) (by decide +kernel)
theorem mm_init : Cond.initialized "java/lang/Math" ∈ lw_g := am_mem 123 (by decide +kernel) (by decide +kernel)
set_option maxRecDepth 100000 in
theorem mf_J0_checkBoundsBeginEnd_23922 : am_mf mJ0_checkBoundsBeginEnd_23922 3 := ⟨am_mem 624 rfl (by decide +kernel), am_mem 121 (by decide +kernel) (by decide +kernel), by decide +kernel, by decide, by decide +kernel⟩
theorem ms_J0_checkBoundsBeginEnd_23922 : Cond.static yJ0_checkBoundsBeginEnd_23922 ∈ lw_g := am_mem 623 (by decide +kernel) (by decide +kernel)
set_option maxRecDepth 100000 in
theorem mf_J0_coder_7d493 : am_mf mJ0_coder_7d493 0 := ⟨am_mem 591 rfl (by decide +kernel), am_mem 121 (by decide +kernel) (by decide +kernel), by decide +kernel, by decide, by decide +kernel⟩
set_option maxRecDepth 100000 in
theorem mf_J0_indexOf_0f7a4 : am_mf mJ0_indexOf_0f7a4 1 := ⟨am_mem 573 rfl (by decide +kernel), am_mem 121 (by decide +kernel) (by decide +kernel), by decide +kernel, by decide, by decide +kernel⟩
set_option maxRecDepth 100000 in
theorem mf_J0_indexOf_7cf53 : am_mf mJ0_indexOf_7cf53 2 := ⟨am_mem 577 rfl (by decide +kernel), am_mem 121 (by decide +kernel) (by decide +kernel), by decide +kernel, by decide, by decide +kernel⟩
set_option maxRecDepth 100000 in
theorem mf_J0_isLatin1_aae02 : am_mf mJ0_isLatin1_aae02 0 := ⟨am_mem 581 rfl (by decide +kernel), am_mem 121 (by decide +kernel) (by decide +kernel), by decide +kernel, by decide, by decide +kernel⟩
set_option maxRecDepth 100000 in
theorem mf_J0_length_8abf5 : am_mf mJ0_length_8abf5 0 := ⟨am_mem 587 rfl (by decide +kernel), am_mem 121 (by decide +kernel) (by decide +kernel), by decide +kernel, by decide, by decide +kernel⟩
set_option maxRecDepth 100000 in
theorem mf_J11_highSurrogate_5068e : am_mf mJ11_highSurrogate_5068e 1 := ⟨am_mem 650 rfl (by decide +kernel), am_mem 126 (by decide +kernel) (by decide +kernel), by decide +kernel, by decide, by decide +kernel⟩
theorem ms_J11_highSurrogate_5068e : Cond.static yJ11_highSurrogate_5068e ∈ lw_g := am_mem 649 (by decide +kernel) (by decide +kernel)
set_option maxRecDepth 100000 in
theorem mf_J11_isValidCodePoint_9a6ad : am_mf mJ11_isValidCodePoint_9a6ad 1 := ⟨am_mem 647 rfl (by decide +kernel), am_mem 126 (by decide +kernel) (by decide +kernel), by decide +kernel, by decide, by decide +kernel⟩
theorem ms_J11_isValidCodePoint_9a6ad : Cond.static yJ11_isValidCodePoint_9a6ad ∈ lw_g := am_mem 646 (by decide +kernel) (by decide +kernel)
set_option maxRecDepth 100000 in
theorem mf_J11_lowSurrogate_5068e : am_mf mJ11_lowSurrogate_5068e 1 := ⟨am_mem 654 rfl (by decide +kernel), am_mem 126 (by decide +kernel) (by decide +kernel), by decide +kernel, by decide, by decide +kernel⟩
theorem ms_J11_lowSurrogate_5068e : Cond.static yJ11_lowSurrogate_5068e ∈ lw_g := am_mem 653 (by decide +kernel) (by decide +kernel)
set_option maxRecDepth 100000 in
theorem mf_J1_canEncode_9a6ad : am_mf mJ1_canEncode_9a6ad 1 := ⟨am_mem 597 rfl (by decide +kernel), am_mem 122 (by decide +kernel) (by decide +kernel), by decide +kernel, by decide, by decide +kernel⟩
theorem ms_J1_canEncode_9a6ad : Cond.static yJ1_canEncode_9a6ad ∈ lw_g := am_mem 596 (by decide +kernel) (by decide +kernel)
set_option maxRecDepth 100000 in
theorem mf_J1_indexOfChar_4cfef : am_mf mJ1_indexOfChar_4cfef 4 := ⟨am_mem 606 rfl (by decide +kernel), am_mem 122 (by decide +kernel) (by decide +kernel), by decide +kernel, by decide, by decide +kernel⟩
theorem ms_J1_indexOfChar_4cfef : Cond.static yJ1_indexOfChar_4cfef ∈ lw_g := am_mem 605 (by decide +kernel) (by decide +kernel)
set_option maxRecDepth 100000 in
theorem mf_J1_indexOf_4cfef : am_mf mJ1_indexOf_4cfef 4 := ⟨am_mem 594 rfl (by decide +kernel), am_mem 122 (by decide +kernel) (by decide +kernel), by decide +kernel, by decide, by decide +kernel⟩
theorem ms_J1_indexOf_4cfef : Cond.static yJ1_indexOf_4cfef ∈ lw_g := am_mem 593 (by decide +kernel) (by decide +kernel)
set_option maxRecDepth 100000 in
theorem mf_J2_checkBoundsBeginEnd_d044e : am_mf mJ2_checkBoundsBeginEnd_d044e 3 := ⟨am_mem 618 rfl (by decide +kernel), am_mem 124 (by decide +kernel) (by decide +kernel), by decide +kernel, by decide, by decide +kernel⟩
theorem ms_J2_checkBoundsBeginEnd_d044e : Cond.static yJ2_checkBoundsBeginEnd_d044e ∈ lw_g := am_mem 617 (by decide +kernel) (by decide +kernel)
set_option maxRecDepth 100000 in
theorem mf_J2_getChar_3b067 : am_mf mJ2_getChar_3b067 2 := ⟨am_mem 635 rfl (by decide +kernel), am_mem 124 (by decide +kernel) (by decide +kernel), by decide +kernel, by decide, by decide +kernel⟩
theorem ms_J2_getChar_3b067 : Cond.static yJ2_getChar_3b067 ∈ lw_g := am_mem 634 (by decide +kernel) (by decide +kernel)
set_option maxRecDepth 100000 in
theorem mf_J2_indexOfCharUnsafe_4cfef : am_mf mJ2_indexOfCharUnsafe_4cfef 4 := ⟨am_mem 632 rfl (by decide +kernel), am_mem 124 (by decide +kernel) (by decide +kernel), by decide +kernel, by decide, by decide +kernel⟩
theorem ms_J2_indexOfCharUnsafe_4cfef : Cond.static yJ2_indexOfCharUnsafe_4cfef ∈ lw_g := am_mem 631 (by decide +kernel) (by decide +kernel)
set_option maxRecDepth 100000 in
theorem mf_J2_indexOfChar_4cfef : am_mf mJ2_indexOfChar_4cfef 4 := ⟨am_mem 615 rfl (by decide +kernel), am_mem 124 (by decide +kernel) (by decide +kernel), by decide +kernel, by decide, by decide +kernel⟩
theorem ms_J2_indexOfChar_4cfef : Cond.static yJ2_indexOfChar_4cfef ∈ lw_g := am_mem 614 (by decide +kernel) (by decide +kernel)
set_option maxRecDepth 100000 in
theorem mf_J2_indexOfSupplementary_4cfef : am_mf mJ2_indexOfSupplementary_4cfef 4 := ⟨am_mem 644 rfl (by decide +kernel), am_mem 124 (by decide +kernel) (by decide +kernel), by decide +kernel, by decide, by decide +kernel⟩
theorem ms_J2_indexOfSupplementary_4cfef : Cond.static yJ2_indexOfSupplementary_4cfef ∈ lw_g := am_mem 643 (by decide +kernel) (by decide +kernel)
set_option maxRecDepth 100000 in
theorem mf_J2_indexOf_4cfef : am_mf mJ2_indexOf_4cfef 4 := ⟨am_mem 609 rfl (by decide +kernel), am_mem 124 (by decide +kernel) (by decide +kernel), by decide +kernel, by decide, by decide +kernel⟩
theorem ms_J2_indexOf_4cfef : Cond.static yJ2_indexOf_4cfef ∈ lw_g := am_mem 608 (by decide +kernel) (by decide +kernel)
set_option maxRecDepth 100000 in
theorem mf_J2_length_9d52b : am_mf mJ2_length_9d52b 1 := ⟨am_mem 621 rfl (by decide +kernel), am_mem 124 (by decide +kernel) (by decide +kernel), by decide +kernel, by decide, by decide +kernel⟩
theorem ms_J2_length_9d52b : Cond.static yJ2_length_9d52b ∈ lw_g := am_mem 620 (by decide +kernel) (by decide +kernel)
set_option maxRecDepth 100000 in
theorem mf_J3_checkFromToIndex_8c36e : am_mf mJ3_checkFromToIndex_8c36e 4 := ⟨am_mem 629 rfl (by decide +kernel), am_mem 125 (by decide +kernel) (by decide +kernel), by decide +kernel, by decide, by decide +kernel⟩
theorem ms_J3_checkFromToIndex_8c36e : Cond.static yJ3_checkFromToIndex_8c36e ∈ lw_g := am_mem 628 (by decide +kernel) (by decide +kernel)
set_option maxRecDepth 100000 in
theorem mf_J7_fill_53178 : am_mf mJ7_fill_53178 2 := ⟨am_mem 710 rfl (by decide +kernel), am_mem 127 (by decide +kernel) (by decide +kernel), by decide +kernel, by decide, by decide +kernel⟩
theorem ms_J7_fill_53178 : Cond.static yJ7_fill_53178 ∈ lw_g := am_mem 709 (by decide +kernel) (by decide +kernel)
set_option maxRecDepth 100000 in
theorem mf_X0_addPaper : am_mf mX0_addPaper 2 := ⟨am_mem 745 rfl (by decide +kernel), am_mem 117 (by decide +kernel) (by decide +kernel), by decide +kernel, by decide, by decide +kernel⟩
theorem mv_X0_addPaper : am_mv mX0_addPaper 0 := ⟨am_mem 743 (by decide +kernel) (by decide +kernel), am_mem 744 (by decide +kernel) (by decide +kernel), by decide, _, _, rfl⟩
set_option maxRecDepth 100000 in
theorem mf_X0_bitsIn : am_mf mX0_bitsIn 1 := ⟨am_mem 841 rfl (by decide +kernel), am_mem 117 (by decide +kernel) (by decide +kernel), by decide +kernel, by decide, by decide +kernel⟩
theorem mv_X0_bitsIn : am_mv mX0_bitsIn 0 := ⟨am_mem 839 (by decide +kernel) (by decide +kernel), am_mem 840 (by decide +kernel) (by decide +kernel), by decide, _, _, rfl⟩
set_option maxRecDepth 100000 in
theorem mf_X0_bitsOut : am_mf mX0_bitsOut 0 := ⟨am_mem 837 rfl (by decide +kernel), am_mem 117 (by decide +kernel) (by decide +kernel), by decide +kernel, by decide, by decide +kernel⟩
theorem mv_X0_bitsOut : am_mv mX0_bitsOut 0 := ⟨am_mem 835 (by decide +kernel) (by decide +kernel), am_mem 836 (by decide +kernel) (by decide +kernel), by decide, _, _, rfl⟩
set_option maxRecDepth 100000 in
theorem mf_X0_bitsRead : am_mf mX0_bitsRead 0 := ⟨am_mem 845 rfl (by decide +kernel), am_mem 117 (by decide +kernel) (by decide +kernel), by decide +kernel, by decide, by decide +kernel⟩
theorem mv_X0_bitsRead : am_mv mX0_bitsRead 0 := ⟨am_mem 843 (by decide +kernel) (by decide +kernel), am_mem 844 (by decide +kernel) (by decide +kernel), by decide, _, _, rfl⟩
set_option maxRecDepth 100000 in
theorem mf_X0_bitsTold : am_mf mX0_bitsTold 0 := ⟨am_mem 1137 rfl (by decide +kernel), am_mem 117 (by decide +kernel) (by decide +kernel), by decide +kernel, by decide, by decide +kernel⟩
theorem mv_X0_bitsTold : am_mv mX0_bitsTold 0 := ⟨am_mem 1135 (by decide +kernel) (by decide +kernel), am_mem 1136 (by decide +kernel) (by decide +kernel), by decide, _, _, rfl⟩
set_option maxRecDepth 100000 in
theorem mf_X0_clearCabinet : am_mf mX0_clearCabinet 0 := ⟨am_mem 707 rfl (by decide +kernel), am_mem 117 (by decide +kernel) (by decide +kernel), by decide +kernel, by decide, by decide +kernel⟩
theorem mv_X0_clearCabinet : am_mv mX0_clearCabinet 0 := ⟨am_mem 705 (by decide +kernel) (by decide +kernel), am_mem 706 (by decide +kernel) (by decide +kernel), by decide, _, _, rfl⟩
set_option maxRecDepth 100000 in
theorem mf_X0_copyFrom : am_mf mX0_copyFrom 1 := ⟨am_mem 829 rfl (by decide +kernel), am_mem 117 (by decide +kernel) (by decide +kernel), by decide +kernel, by decide, by decide +kernel⟩
theorem mv_X0_copyFrom : am_mv mX0_copyFrom 0 := ⟨am_mem 827 (by decide +kernel) (by decide +kernel), am_mem 828 (by decide +kernel) (by decide +kernel), by decide, _, _, rfl⟩
set_option maxRecDepth 100000 in
theorem mf_X0_draw : am_mf mX0_draw 0 := ⟨am_mem 773 rfl (by decide +kernel), am_mem 117 (by decide +kernel) (by decide +kernel), by decide +kernel, by decide, by decide +kernel⟩
theorem mv_X0_draw : am_mv mX0_draw 0 := ⟨am_mem 771 (by decide +kernel) (by decide +kernel), am_mem 772 (by decide +kernel) (by decide +kernel), by decide, _, _, rfl⟩
set_option maxRecDepth 100000 in
theorem mf_X0_fits : am_mf mX0_fits 2 := ⟨am_mem 458 rfl (by decide +kernel), am_mem 117 (by decide +kernel) (by decide +kernel), by decide +kernel, by decide, by decide +kernel⟩
theorem mv_X0_fits : am_mv mX0_fits 0 := ⟨am_mem 456 (by decide +kernel) (by decide +kernel), am_mem 457 (by decide +kernel) (by decide +kernel), by decide, _, _, rfl⟩
set_option maxRecDepth 100000 in
theorem mf_X0_freest : am_mf mX0_freest 0 := ⟨am_mem 885 rfl (by decide +kernel), am_mem 117 (by decide +kernel) (by decide +kernel), by decide +kernel, by decide, by decide +kernel⟩
theorem mv_X0_freest : am_mv mX0_freest 0 := ⟨am_mem 883 (by decide +kernel) (by decide +kernel), am_mem 884 (by decide +kernel) (by decide +kernel), by decide, _, _, rfl⟩
set_option maxRecDepth 100000 in
theorem mf_X0_fullOfAll : am_mf mX0_fullOfAll 0 := ⟨am_mem 1141 rfl (by decide +kernel), am_mem 117 (by decide +kernel) (by decide +kernel), by decide +kernel, by decide, by decide +kernel⟩
theorem mv_X0_fullOfAll : am_mv mX0_fullOfAll 0 := ⟨am_mem 1139 (by decide +kernel) (by decide +kernel), am_mem 1140 (by decide +kernel) (by decide +kernel), by decide, _, _, rfl⟩
set_option maxRecDepth 100000 in
theorem mf_X0_hasPaper : am_mf mX0_hasPaper 1 := ⟨am_mem 440 rfl (by decide +kernel), am_mem 117 (by decide +kernel) (by decide +kernel), by decide +kernel, by decide, by decide +kernel⟩
theorem mv_X0_hasPaper : am_mv mX0_hasPaper 0 := ⟨am_mem 438 (by decide +kernel) (by decide +kernel), am_mem 439 (by decide +kernel) (by decide +kernel), by decide, _, _, rfl⟩
set_option maxRecDepth 100000 in
theorem mf_X0_isIn : am_mf mX0_isIn 1 := ⟨am_mem 806 rfl (by decide +kernel), am_mem 117 (by decide +kernel) (by decide +kernel), by decide +kernel, by decide, by decide +kernel⟩
theorem mv_X0_isIn : am_mv mX0_isIn 0 := ⟨am_mem 804 (by decide +kernel) (by decide +kernel), am_mem 805 (by decide +kernel) (by decide +kernel), by decide, _, _, rfl⟩
set_option maxRecDepth 100000 in
theorem mf_X0_isTold : am_mf mX0_isTold 1 := ⟨am_mem 453 rfl (by decide +kernel), am_mem 117 (by decide +kernel) (by decide +kernel), by decide +kernel, by decide, by decide +kernel⟩
theorem mv_X0_isTold : am_mv mX0_isTold 0 := ⟨am_mem 451 (by decide +kernel) (by decide +kernel), am_mem 452 (by decide +kernel) (by decide +kernel), by decide, _, _, rfl⟩
set_option maxRecDepth 100000 in
theorem mf_X0_lift : am_mf mX0_lift 1 := ⟨am_mem 449 rfl (by decide +kernel), am_mem 117 (by decide +kernel) (by decide +kernel), by decide +kernel, by decide, by decide +kernel⟩
theorem mv_X0_lift : am_mv mX0_lift 0 := ⟨am_mem 448 (by decide +kernel) (by decide +kernel), am_mem 0 (by decide +kernel) (by decide +kernel), by decide, _, _, rfl⟩
set_option maxRecDepth 100000 in
theorem mf_X0_longestIn : am_mf mX0_longestIn 0 := ⟨am_mem 911 rfl (by decide +kernel), am_mem 117 (by decide +kernel) (by decide +kernel), by decide +kernel, by decide, by decide +kernel⟩
theorem mv_X0_longestIn : am_mv mX0_longestIn 0 := ⟨am_mem 909 (by decide +kernel) (by decide +kernel), am_mem 910 (by decide +kernel) (by decide +kernel), by decide, _, _, rfl⟩
set_option maxRecDepth 100000 in
theorem mf_X0_move : am_mf mX0_move 2 := ⟨am_mem 462 rfl (by decide +kernel), am_mem 117 (by decide +kernel) (by decide +kernel), by decide +kernel, by decide, by decide +kernel⟩
theorem mv_X0_move : am_mv mX0_move 0 := ⟨am_mem 460 (by decide +kernel) (by decide +kernel), am_mem 461 (by decide +kernel) (by decide +kernel), by decide, _, _, rfl⟩
set_option maxRecDepth 100000 in
theorem mf_X0_papersOf : am_mf mX0_papersOf 1 := ⟨am_mem 898 rfl (by decide +kernel), am_mem 117 (by decide +kernel) (by decide +kernel), by decide +kernel, by decide, by decide +kernel⟩
theorem mv_X0_papersOf : am_mv mX0_papersOf 0 := ⟨am_mem 896 (by decide +kernel) (by decide +kernel), am_mem 897 (by decide +kernel) (by decide +kernel), by decide, _, _, rfl⟩
set_option maxRecDepth 100000 in
theorem mf_X0_putBack : am_mf mX0_putBack 1 := ⟨am_mem 1117 rfl (by decide +kernel), am_mem 117 (by decide +kernel) (by decide +kernel), by decide +kernel, by decide, by decide +kernel⟩
theorem mv_X0_putBack : am_mv mX0_putBack 0 := ⟨am_mem 1115 (by decide +kernel) (by decide +kernel), am_mem 1116 (by decide +kernel) (by decide +kernel), by decide, _, _, rfl⟩
set_option maxRecDepth 100000 in
theorem mf_X0_roomOfAll : am_mf mX0_roomOfAll 0 := ⟨am_mem 1145 rfl (by decide +kernel), am_mem 117 (by decide +kernel) (by decide +kernel), by decide +kernel, by decide, by decide +kernel⟩
theorem mv_X0_roomOfAll : am_mv mX0_roomOfAll 0 := ⟨am_mem 1143 (by decide +kernel) (by decide +kernel), am_mem 1144 (by decide +kernel) (by decide +kernel), by decide, _, _, rfl⟩
set_option maxRecDepth 100000 in
theorem mf_X0_sizesInOf : am_mf mX0_sizesInOf 1 := ⟨am_mem 902 rfl (by decide +kernel), am_mem 117 (by decide +kernel) (by decide +kernel), by decide +kernel, by decide, by decide +kernel⟩
theorem mv_X0_sizesInOf : am_mv mX0_sizesInOf 0 := ⟨am_mem 900 (by decide +kernel) (by decide +kernel), am_mem 901 (by decide +kernel) (by decide +kernel), by decide, _, _, rfl⟩
set_option maxRecDepth 100000 in
theorem mf_X0_space : am_mf mX0_space 1 := ⟨am_mem 889 rfl (by decide +kernel), am_mem 117 (by decide +kernel) (by decide +kernel), by decide +kernel, by decide, by decide +kernel⟩
theorem mv_X0_space : am_mv mX0_space 0 := ⟨am_mem 887 (by decide +kernel) (by decide +kernel), am_mem 888 (by decide +kernel) (by decide +kernel), by decide, _, _, rfl⟩
set_option maxRecDepth 100000 in
theorem mf_X0_takeOut : am_mf mX0_takeOut 1 := ⟨am_mem 444 rfl (by decide +kernel), am_mem 117 (by decide +kernel) (by decide +kernel), by decide +kernel, by decide, by decide +kernel⟩
theorem mv_X0_takeOut : am_mv mX0_takeOut 0 := ⟨am_mem 442 (by decide +kernel) (by decide +kernel), am_mem 443 (by decide +kernel) (by decide +kernel), by decide, _, _, rfl⟩
set_option maxRecDepth 100000 in
theorem mf_X0_takeTime : am_mf mX0_takeTime 1 := ⟨am_mem 756 rfl (by decide +kernel), am_mem 117 (by decide +kernel) (by decide +kernel), by decide +kernel, by decide, by decide +kernel⟩
theorem mv_X0_takeTime : am_mv mX0_takeTime 0 := ⟨am_mem 754 (by decide +kernel) (by decide +kernel), am_mem 755 (by decide +kernel) (by decide +kernel), by decide, _, _, rfl⟩
set_option maxRecDepth 100000 in
theorem mf_X0_tellDrawer : am_mf mX0_tellDrawer 2 := ⟨am_mem 737 rfl (by decide +kernel), am_mem 117 (by decide +kernel) (by decide +kernel), by decide +kernel, by decide, by decide +kernel⟩
theorem mv_X0_tellDrawer : am_mv mX0_tellDrawer 0 := ⟨am_mem 735 (by decide +kernel) (by decide +kernel), am_mem 736 (by decide +kernel) (by decide +kernel), by decide, _, _, rfl⟩
set_option maxRecDepth 100000 in
theorem mf_X10_balanced : am_mf mX10_balanced 1 := ⟨am_mem 1024 rfl (by decide +kernel), am_mem 109 (by decide +kernel) (by decide +kernel), by decide +kernel, by decide, by decide +kernel⟩
theorem mv_X10_balanced : am_mv mX10_balanced 10 := ⟨am_mem 1022 (by decide +kernel) (by decide +kernel), am_mem 1023 (by decide +kernel) (by decide +kernel), by decide, _, _, rfl⟩
set_option maxRecDepth 100000 in
theorem mf_X10_cabinet : am_mf mX10_cabinet 1 := ⟨am_mem 699 rfl (by decide +kernel), am_mem 109 (by decide +kernel) (by decide +kernel), by decide +kernel, by decide, by decide +kernel⟩
theorem mv_X10_cabinet : am_mv mX10_cabinet 10 := ⟨am_mem 697 (by decide +kernel) (by decide +kernel), am_mem 698 (by decide +kernel) (by decide +kernel), by decide, _, _, rfl⟩
set_option maxRecDepth 100000 in
theorem mf_X10_canBeTried : am_mf mX10_canBeTried 1 := ⟨am_mem 825 rfl (by decide +kernel), am_mem 109 (by decide +kernel) (by decide +kernel), by decide +kernel, by decide, by decide +kernel⟩
theorem mv_X10_canBeTried : am_mv mX10_canBeTried 10 := ⟨am_mem 824 (by decide +kernel) (by decide +kernel), am_mem 23 (by decide +kernel) (by decide +kernel), by decide, _, _, rfl⟩
set_option maxRecDepth 100000 in
theorem mf_X10_check : am_mf mX10_check 1 := ⟨am_mem 1124 rfl (by decide +kernel), am_mem 109 (by decide +kernel) (by decide +kernel), by decide +kernel, by decide, by decide +kernel⟩
theorem mv_X10_check : am_mv mX10_check 10 := ⟨am_mem 1122 (by decide +kernel) (by decide +kernel), am_mem 1123 (by decide +kernel) (by decide +kernel), by decide, _, _, rfl⟩
set_option maxRecDepth 100000 in
theorem mf_X10_count : am_mf mX10_count 1 := ⟨am_mem 1133 rfl (by decide +kernel), am_mem 109 (by decide +kernel) (by decide +kernel), by decide +kernel, by decide, by decide +kernel⟩
theorem mv_X10_count : am_mv mX10_count 10 := ⟨am_mem 1131 (by decide +kernel) (by decide +kernel), am_mem 1132 (by decide +kernel) (by decide +kernel), by decide, _, _, rfl⟩
set_option maxRecDepth 100000 in
theorem mf_X10_days : am_mf mX10_days 1 := ⟨am_mem 760 rfl (by decide +kernel), am_mem 109 (by decide +kernel) (by decide +kernel), by decide +kernel, by decide, by decide +kernel⟩
theorem mv_X10_days : am_mv mX10_days 10 := ⟨am_mem 758 (by decide +kernel) (by decide +kernel), am_mem 759 (by decide +kernel) (by decide +kernel), by decide, _, _, rfl⟩
set_option maxRecDepth 100000 in
theorem mf_X10_drawerIs : am_mf mX10_drawerIs 2 := ⟨am_mem 849 rfl (by decide +kernel), am_mem 109 (by decide +kernel) (by decide +kernel), by decide +kernel, by decide, by decide +kernel⟩
theorem mv_X10_drawerIs : am_mv mX10_drawerIs 10 := ⟨am_mem 847 (by decide +kernel) (by decide +kernel), am_mem 848 (by decide +kernel) (by decide +kernel), by decide, _, _, rfl⟩
set_option maxRecDepth 100000 in
theorem mf_X10_dusted : am_mf mX10_dusted 1 := ⟨am_mem 1016 rfl (by decide +kernel), am_mem 109 (by decide +kernel) (by decide +kernel), by decide +kernel, by decide, by decide +kernel⟩
theorem mv_X10_dusted : am_mv mX10_dusted 10 := ⟨am_mem 1014 (by decide +kernel) (by decide +kernel), am_mem 1015 (by decide +kernel) (by decide +kernel), by decide, _, _, rfl⟩
set_option maxRecDepth 100000 in
theorem mf_X10_feed : am_mf mX10_feed 5 := ⟨am_mem 467 rfl (by decide +kernel), am_mem 109 (by decide +kernel) (by decide +kernel), by decide +kernel, by decide, by decide +kernel⟩
theorem mv_X10_feed : am_mv mX10_feed 10 := ⟨am_mem 465 (by decide +kernel) (by decide +kernel), am_mem 466 (by decide +kernel) (by decide +kernel), by decide, _, _, rfl⟩
set_option maxRecDepth 100000 in
theorem mf_X10_fewest : am_mf mX10_fewest 0 := ⟨am_mem 862 rfl (by decide +kernel), am_mem 109 (by decide +kernel) (by decide +kernel), by decide +kernel, by decide, by decide +kernel⟩
theorem mv_X10_fewest : am_mv mX10_fewest 10 := ⟨am_mem 860 (by decide +kernel) (by decide +kernel), am_mem 861 (by decide +kernel) (by decide +kernel), by decide, _, _, rfl⟩
set_option maxRecDepth 100000 in
theorem mf_X10_firstUnlike : am_mf mX10_firstUnlike 1 := ⟨am_mem 1128 rfl (by decide +kernel), am_mem 109 (by decide +kernel) (by decide +kernel), by decide +kernel, by decide, by decide +kernel⟩
theorem mv_X10_firstUnlike : am_mv mX10_firstUnlike 10 := ⟨am_mem 1127 (by decide +kernel) (by decide +kernel), am_mem 45 (by decide +kernel) (by decide +kernel), by decide, _, _, rfl⟩
set_option maxRecDepth 100000 in
theorem mf_X10_free : am_mf mX10_free 1 := ⟨am_mem 881 rfl (by decide +kernel), am_mem 109 (by decide +kernel) (by decide +kernel), by decide +kernel, by decide, by decide +kernel⟩
theorem mv_X10_free : am_mv mX10_free 10 := ⟨am_mem 879 (by decide +kernel) (by decide +kernel), am_mem 880 (by decide +kernel) (by decide +kernel), by decide, _, _, rfl⟩
set_option maxRecDepth 100000 in
theorem mf_X10_heard : am_mf mX10_heard 2 := ⟨am_mem 1081 rfl (by decide +kernel), am_mem 109 (by decide +kernel) (by decide +kernel), by decide +kernel, by decide, by decide +kernel⟩
theorem mv_X10_heard : am_mv mX10_heard 10 := ⟨am_mem 1079 (by decide +kernel) (by decide +kernel), am_mem 1080 (by decide +kernel) (by decide +kernel), by decide, _, _, rfl⟩
set_option maxRecDepth 100000 in
theorem mf_X10_heirs : am_mf mX10_heirs 2 := ⟨am_mem 1069 rfl (by decide +kernel), am_mem 109 (by decide +kernel) (by decide +kernel), by decide +kernel, by decide, by decide +kernel⟩
theorem mv_X10_heirs : am_mv mX10_heirs 10 := ⟨am_mem 1067 (by decide +kernel) (by decide +kernel), am_mem 1068 (by decide +kernel) (by decide +kernel), by decide, _, _, rfl⟩
set_option maxRecDepth 100000 in
theorem mf_X10_init : am_mf mX10_init 0 := ⟨am_mem 133 rfl (by decide +kernel), am_mem 109 (by decide +kernel) (by decide +kernel), by decide +kernel, by decide, by decide +kernel⟩
set_option maxRecDepth 100000 in
theorem mf_X10_isFromTo : am_mf mX10_isFromTo 3 := ⟨am_mem 482 rfl (by decide +kernel), am_mem 109 (by decide +kernel) (by decide +kernel), by decide +kernel, by decide, by decide +kernel⟩
theorem ms_X10_isFromTo : Cond.static yX10_isFromTo ∈ lw_g := am_mem 481 (by decide +kernel) (by decide +kernel)
set_option maxRecDepth 100000 in
theorem mf_X10_keep : am_mf mX10_keep 0 := ⟨am_mem 1109 rfl (by decide +kernel), am_mem 109 (by decide +kernel) (by decide +kernel), by decide +kernel, by decide, by decide +kernel⟩
theorem mv_X10_keep : am_mv mX10_keep 10 := ⟨am_mem 1107 (by decide +kernel) (by decide +kernel), am_mem 1108 (by decide +kernel) (by decide +kernel), by decide, _, _, rfl⟩
set_option maxRecDepth 100000 in
theorem mf_X10_law : am_mf mX10_law 1 := ⟨am_mem 479 rfl (by decide +kernel), am_mem 109 (by decide +kernel) (by decide +kernel), by decide +kernel, by decide, by decide +kernel⟩
theorem mv_X10_law : am_mv mX10_law 10 := ⟨am_mem 477 (by decide +kernel) (by decide +kernel), am_mem 478 (by decide +kernel) (by decide +kernel), by decide, _, _, rfl⟩
set_option maxRecDepth 100000 in
theorem mf_X10_nest : am_mf mX10_nest 1 := ⟨am_mem 1002 rfl (by decide +kernel), am_mem 109 (by decide +kernel) (by decide +kernel), by decide +kernel, by decide, by decide +kernel⟩
theorem mv_X10_nest : am_mv mX10_nest 10 := ⟨am_mem 1000 (by decide +kernel) (by decide +kernel), am_mem 1001 (by decide +kernel) (by decide +kernel), by decide, _, _, rfl⟩
set_option maxRecDepth 100000 in
theorem mf_X10_ofSubject : am_mf mX10_ofSubject 2 := ⟨am_mem 894 rfl (by decide +kernel), am_mem 109 (by decide +kernel) (by decide +kernel), by decide +kernel, by decide, by decide +kernel⟩
theorem mv_X10_ofSubject : am_mv mX10_ofSubject 10 := ⟨am_mem 892 (by decide +kernel) (by decide +kernel), am_mem 893 (by decide +kernel) (by decide +kernel), by decide, _, _, rfl⟩
set_option maxRecDepth 100000 in
theorem mf_X10_oldest : am_mf mX10_oldest 0 := ⟨am_mem 907 rfl (by decide +kernel), am_mem 109 (by decide +kernel) (by decide +kernel), by decide +kernel, by decide, by decide +kernel⟩
theorem mv_X10_oldest : am_mv mX10_oldest 10 := ⟨am_mem 905 (by decide +kernel) (by decide +kernel), am_mem 906 (by decide +kernel) (by decide +kernel), by decide, _, _, rfl⟩
set_option maxRecDepth 100000 in
theorem mf_X10_paperIs : am_mf mX10_paperIs 2 := ⟨am_mem 854 rfl (by decide +kernel), am_mem 109 (by decide +kernel) (by decide +kernel), by decide +kernel, by decide, by decide +kernel⟩
theorem mv_X10_paperIs : am_mv mX10_paperIs 10 := ⟨am_mem 852 (by decide +kernel) (by decide +kernel), am_mem 853 (by decide +kernel) (by decide +kernel), by decide, _, _, rfl⟩
set_option maxRecDepth 100000 in
theorem mf_X10_pigeonholes : am_mf mX10_pigeonholes 3 := ⟨am_mem 1032 rfl (by decide +kernel), am_mem 109 (by decide +kernel) (by decide +kernel), by decide +kernel, by decide, by decide +kernel⟩
theorem mv_X10_pigeonholes : am_mv mX10_pigeonholes 10 := ⟨am_mem 1030 (by decide +kernel) (by decide +kernel), am_mem 1031 (by decide +kernel) (by decide +kernel), by decide, _, _, rfl⟩
set_option maxRecDepth 100000 in
theorem mf_X10_planked : am_mf mX10_planked 2 := ⟨am_mem 1044 rfl (by decide +kernel), am_mem 109 (by decide +kernel) (by decide +kernel), by decide +kernel, by decide, by decide +kernel⟩
theorem mv_X10_planked : am_mv mX10_planked 10 := ⟨am_mem 1042 (by decide +kernel) (by decide +kernel), am_mem 1043 (by decide +kernel) (by decide +kernel), by decide, _, _, rfl⟩
set_option maxRecDepth 100000 in
theorem mf_X10_put : am_mf mX10_put 2 := ⟨am_mem 436 rfl (by decide +kernel), am_mem 109 (by decide +kernel) (by decide +kernel), by decide +kernel, by decide, by decide +kernel⟩
theorem mv_X10_put : am_mv mX10_put 10 := ⟨am_mem 434 (by decide +kernel) (by decide +kernel), am_mem 435 (by decide +kernel) (by decide +kernel), by decide, _, _, rfl⟩
set_option maxRecDepth 100000 in
theorem mf_X10_secret : am_mf mX10_secret 3 := ⟨am_mem 976 rfl (by decide +kernel), am_mem 109 (by decide +kernel) (by decide +kernel), by decide +kernel, by decide, by decide +kernel⟩
theorem mv_X10_secret : am_mv mX10_secret 10 := ⟨am_mem 974 (by decide +kernel) (by decide +kernel), am_mem 975 (by decide +kernel) (by decide +kernel), by decide, _, _, rfl⟩
set_option maxRecDepth 100000 in
theorem mf_X10_seed : am_mf mX10_seed 1 := ⟨am_mem 1104 rfl (by decide +kernel), am_mem 109 (by decide +kernel) (by decide +kernel), by decide +kernel, by decide, by decide +kernel⟩
theorem mv_X10_seed : am_mv mX10_seed 10 := ⟨am_mem 1102 (by decide +kernel) (by decide +kernel), am_mem 1103 (by decide +kernel) (by decide +kernel), by decide, _, _, rfl⟩
set_option maxRecDepth 100000 in
theorem mf_X10_shut : am_mf mX10_shut 1 := ⟨am_mem 858 rfl (by decide +kernel), am_mem 109 (by decide +kernel) (by decide +kernel), by decide +kernel, by decide, by decide +kernel⟩
theorem mv_X10_shut : am_mv mX10_shut 10 := ⟨am_mem 856 (by decide +kernel) (by decide +kernel), am_mem 857 (by decide +kernel) (by decide +kernel), by decide, _, _, rfl⟩
set_option maxRecDepth 100000 in
theorem mf_X10_slip : am_mf mX10_slip 2 := ⟨am_mem 915 rfl (by decide +kernel), am_mem 109 (by decide +kernel) (by decide +kernel), by decide +kernel, by decide, by decide +kernel⟩
theorem mv_X10_slip : am_mv mX10_slip 10 := ⟨am_mem 913 (by decide +kernel) (by decide +kernel), am_mem 914 (by decide +kernel) (by decide +kernel), by decide, _, _, rfl⟩
set_option maxRecDepth 100000 in
theorem mf_X10_ticks : am_mf mX10_ticks 2 := ⟨am_mem 1097 rfl (by decide +kernel), am_mem 109 (by decide +kernel) (by decide +kernel), by decide +kernel, by decide, by decide +kernel⟩
theorem mv_X10_ticks : am_mv mX10_ticks 10 := ⟨am_mem 1095 (by decide +kernel) (by decide +kernel), am_mem 1096 (by decide +kernel) (by decide +kernel), by decide, _, _, rfl⟩
set_option maxRecDepth 100000 in
theorem mf_X10_tried : am_mf mX10_tried 2 := ⟨am_mem 821 rfl (by decide +kernel), am_mem 109 (by decide +kernel) (by decide +kernel), by decide +kernel, by decide, by decide +kernel⟩
theorem mv_X10_tried : am_mv mX10_tried 10 := ⟨am_mem 819 (by decide +kernel) (by decide +kernel), am_mem 820 (by decide +kernel) (by decide +kernel), by decide, _, _, rfl⟩
set_option maxRecDepth 100000 in
theorem mf_X10_undo : am_mf mX10_undo 0 := ⟨am_mem 1113 rfl (by decide +kernel), am_mem 109 (by decide +kernel) (by decide +kernel), by decide +kernel, by decide, by decide +kernel⟩
theorem mv_X10_undo : am_mv mX10_undo 10 := ⟨am_mem 1111 (by decide +kernel) (by decide +kernel), am_mem 1112 (by decide +kernel) (by decide +kernel), by decide, _, _, rfl⟩
set_option maxRecDepth 100000 in
theorem mf_X10_unions : am_mf mX10_unions 3 := ⟨am_mem 1057 rfl (by decide +kernel), am_mem 109 (by decide +kernel) (by decide +kernel), by decide +kernel, by decide, by decide +kernel⟩
theorem mv_X10_unions : am_mv mX10_unions 10 := ⟨am_mem 1055 (by decide +kernel) (by decide +kernel), am_mem 1056 (by decide +kernel) (by decide +kernel), by decide, _, _, rfl⟩
set_option maxRecDepth 100000 in
theorem mf_X11_balanced : am_mf mX11_balanced 1 := ⟨am_mem 1659 rfl (by decide +kernel), am_mem 120 (by decide +kernel) (by decide +kernel), by decide +kernel, by decide, by decide +kernel⟩
theorem mv_X11_balanced : am_mv mX11_balanced 11 := ⟨am_mem 1657 (by decide +kernel) (by decide +kernel), am_mem 1658 (by decide +kernel) (by decide +kernel), by decide, _, _, rfl⟩
set_option maxRecDepth 100000 in
theorem mf_X11_beginsAt : am_mf mX11_beginsAt 2 := ⟨am_mem 1706 rfl (by decide +kernel), am_mem 120 (by decide +kernel) (by decide +kernel), by decide +kernel, by decide, by decide +kernel⟩
theorem mv_X11_beginsAt : am_mv mX11_beginsAt 11 := ⟨am_mem 1705 (by decide +kernel) (by decide +kernel), am_mem 105 (by decide +kernel) (by decide +kernel), by decide, _, _, rfl⟩
set_option maxRecDepth 100000 in
theorem mf_X11_beginsText : am_mf mX11_beginsText 1 := ⟨am_mem 1384 rfl (by decide +kernel), am_mem 120 (by decide +kernel) (by decide +kernel), by decide +kernel, by decide, by decide +kernel⟩
theorem mv_X11_beginsText : am_mv mX11_beginsText 11 := ⟨am_mem 1383 (by decide +kernel) (by decide +kernel), am_mem 52 (by decide +kernel) (by decide +kernel), by decide, _, _, rfl⟩
set_option maxRecDepth 100000 in
theorem mf_X11_bestShift : am_mf mX11_bestShift 0 := ⟨am_mem 1612 rfl (by decide +kernel), am_mem 120 (by decide +kernel) (by decide +kernel), by decide +kernel, by decide, by decide +kernel⟩
theorem mv_X11_bestShift : am_mv mX11_bestShift 11 := ⟨am_mem 1611 (by decide +kernel) (by decide +kernel), am_mem 92 (by decide +kernel) (by decide +kernel), by decide, _, _, rfl⟩
set_option maxRecDepth 100000 in
theorem mf_X11_bits : am_mf mX11_bits 1 := ⟨am_mem 1507 rfl (by decide +kernel), am_mem 120 (by decide +kernel) (by decide +kernel), by decide +kernel, by decide, by decide +kernel⟩
theorem ms_X11_bits : Cond.static yX11_bits ∈ lw_g := am_mem 1506 (by decide +kernel) (by decide +kernel)
set_option maxRecDepth 100000 in
theorem mf_X11_byLaw : am_mf mX11_byLaw 2 := ⟨am_mem 1530 rfl (by decide +kernel), am_mem 120 (by decide +kernel) (by decide +kernel), by decide +kernel, by decide, by decide +kernel⟩
theorem mv_X11_byLaw : am_mv mX11_byLaw 11 := ⟨am_mem 1529 (by decide +kernel) (by decide +kernel), am_mem 83 (by decide +kernel) (by decide +kernel), by decide, _, _, rfl⟩
set_option maxRecDepth 100000 in
theorem mf_X11_cabinet : am_mf mX11_cabinet 1 := ⟨am_mem 1467 rfl (by decide +kernel), am_mem 120 (by decide +kernel) (by decide +kernel), by decide +kernel, by decide, by decide +kernel⟩
theorem mv_X11_cabinet : am_mv mX11_cabinet 11 := ⟨am_mem 1465 (by decide +kernel) (by decide +kernel), am_mem 1466 (by decide +kernel) (by decide +kernel), by decide, _, _, rfl⟩
set_option maxRecDepth 100000 in
theorem mf_X11_canMove : am_mf mX11_canMove 2 := ⟨am_mem 1643 rfl (by decide +kernel), am_mem 120 (by decide +kernel) (by decide +kernel), by decide +kernel, by decide, by decide +kernel⟩
theorem mv_X11_canMove : am_mv mX11_canMove 11 := ⟨am_mem 1642 (by decide +kernel) (by decide +kernel), am_mem 98 (by decide +kernel) (by decide +kernel), by decide, _, _, rfl⟩
set_option maxRecDepth 100000 in
theorem mf_X11_check : am_mf mX11_check 1 := ⟨am_mem 1731 rfl (by decide +kernel), am_mem 120 (by decide +kernel) (by decide +kernel), by decide +kernel, by decide, by decide +kernel⟩
theorem mv_X11_check : am_mv mX11_check 11 := ⟨am_mem 1729 (by decide +kernel) (by decide +kernel), am_mem 1730 (by decide +kernel) (by decide +kernel), by decide, _, _, rfl⟩
set_option maxRecDepth 100000 in
theorem mf_X11_closesSums : am_mf mX11_closesSums 1 := ⟨am_mem 1431 rfl (by decide +kernel), am_mem 120 (by decide +kernel) (by decide +kernel), by decide +kernel, by decide, by decide +kernel⟩
theorem mv_X11_closesSums : am_mv mX11_closesSums 11 := ⟨am_mem 1430 (by decide +kernel) (by decide +kernel), am_mem 62 (by decide +kernel) (by decide +kernel), by decide, _, _, rfl⟩
set_option maxRecDepth 100000 in
theorem mf_X11_copies : am_mf mX11_copies 2 := ⟨am_mem 1544 rfl (by decide +kernel), am_mem 120 (by decide +kernel) (by decide +kernel), by decide +kernel, by decide, by decide +kernel⟩
theorem ms_X11_copies : Cond.static yX11_copies ∈ lw_g := am_mem 1543 (by decide +kernel) (by decide +kernel)
set_option maxRecDepth 100000 in
theorem mf_X11_count : am_mf mX11_count 1 := ⟨am_mem 1735 rfl (by decide +kernel), am_mem 120 (by decide +kernel) (by decide +kernel), by decide +kernel, by decide, by decide +kernel⟩
theorem mv_X11_count : am_mv mX11_count 11 := ⟨am_mem 1733 (by decide +kernel) (by decide +kernel), am_mem 1734 (by decide +kernel) (by decide +kernel), by decide, _, _, rfl⟩
set_option maxRecDepth 100000 in
theorem mf_X11_dayGoes : am_mf mX11_dayGoes 0 := ⟨am_mem 1491 rfl (by decide +kernel), am_mem 120 (by decide +kernel) (by decide +kernel), by decide +kernel, by decide, by decide +kernel⟩
theorem mv_X11_dayGoes : am_mv mX11_dayGoes 11 := ⟨am_mem 1490 (by decide +kernel) (by decide +kernel), am_mem 75 (by decide +kernel) (by decide +kernel), by decide, _, _, rfl⟩
set_option maxRecDepth 100000 in
theorem mf_X11_days : am_mf mX11_days 1 := ⟨am_mem 1483 rfl (by decide +kernel), am_mem 120 (by decide +kernel) (by decide +kernel), by decide +kernel, by decide, by decide +kernel⟩
theorem mv_X11_days : am_mv mX11_days 11 := ⟨am_mem 1481 (by decide +kernel) (by decide +kernel), am_mem 1482 (by decide +kernel) (by decide +kernel), by decide, _, _, rfl⟩
set_option maxRecDepth 100000 in
theorem mf_X11_daysGo : am_mf mX11_daysGo 1 := ⟨am_mem 1487 rfl (by decide +kernel), am_mem 120 (by decide +kernel) (by decide +kernel), by decide +kernel, by decide, by decide +kernel⟩
theorem mv_X11_daysGo : am_mv mX11_daysGo 11 := ⟨am_mem 1486 (by decide +kernel) (by decide +kernel), am_mem 74 (by decide +kernel) (by decide +kernel), by decide, _, _, rfl⟩
set_option maxRecDepth 100000 in
theorem mf_X11_drawerIs : am_mf mX11_drawerIs 2 := ⟨am_mem 1555 rfl (by decide +kernel), am_mem 120 (by decide +kernel) (by decide +kernel), by decide +kernel, by decide, by decide +kernel⟩
theorem mv_X11_drawerIs : am_mv mX11_drawerIs 11 := ⟨am_mem 1553 (by decide +kernel) (by decide +kernel), am_mem 1554 (by decide +kernel) (by decide +kernel), by decide, _, _, rfl⟩
set_option maxRecDepth 100000 in
theorem mf_X11_draws : am_mf mX11_draws 0 := ⟨am_mem 1495 rfl (by decide +kernel), am_mem 120 (by decide +kernel) (by decide +kernel), by decide +kernel, by decide, by decide +kernel⟩
theorem mv_X11_draws : am_mv mX11_draws 11 := ⟨am_mem 1494 (by decide +kernel) (by decide +kernel), am_mem 76 (by decide +kernel) (by decide +kernel), by decide, _, _, rfl⟩
set_option maxRecDepth 100000 in
theorem mf_X11_dusted : am_mf mX11_dusted 1 := ⟨am_mem 1655 rfl (by decide +kernel), am_mem 120 (by decide +kernel) (by decide +kernel), by decide +kernel, by decide, by decide +kernel⟩
theorem mv_X11_dusted : am_mv mX11_dusted 11 := ⟨am_mem 1653 (by decide +kernel) (by decide +kernel), am_mem 1654 (by decide +kernel) (by decide +kernel), by decide, _, _, rfl⟩
set_option maxRecDepth 100000 in
theorem mf_X11_endsPiece : am_mf mX11_endsPiece 0 := ⟨am_mem 1451 rfl (by decide +kernel), am_mem 120 (by decide +kernel) (by decide +kernel), by decide +kernel, by decide, by decide +kernel⟩
theorem mv_X11_endsPiece : am_mv mX11_endsPiece 11 := ⟨am_mem 1450 (by decide +kernel) (by decide +kernel), am_mem 67 (by decide +kernel) (by decide +kernel), by decide, _, _, rfl⟩
set_option maxRecDepth 100000 in
theorem mf_X11_factOf : am_mf mX11_factOf 1 := ⟨am_mem 1424 rfl (by decide +kernel), am_mem 120 (by decide +kernel) (by decide +kernel), by decide +kernel, by decide, by decide +kernel⟩
theorem ms_X11_factOf : Cond.static yX11_factOf ∈ lw_g := am_mem 1423 (by decide +kernel) (by decide +kernel)
set_option maxRecDepth 100000 in
theorem mf_X11_feed : am_mf mX11_feed 5 := ⟨am_mem 1372 rfl (by decide +kernel), am_mem 120 (by decide +kernel) (by decide +kernel), by decide +kernel, by decide, by decide +kernel⟩
theorem mv_X11_feed : am_mv mX11_feed 11 := ⟨am_mem 1370 (by decide +kernel) (by decide +kernel), am_mem 1371 (by decide +kernel) (by decide +kernel), by decide, _, _, rfl⟩
set_option maxRecDepth 100000 in
theorem mf_X11_feelsDrawer : am_mf mX11_feelsDrawer 2 := ⟨am_mem 1500 rfl (by decide +kernel), am_mem 120 (by decide +kernel) (by decide +kernel), by decide +kernel, by decide, by decide +kernel⟩
theorem mv_X11_feelsDrawer : am_mv mX11_feelsDrawer 11 := ⟨am_mem 1499 (by decide +kernel) (by decide +kernel), am_mem 77 (by decide +kernel) (by decide +kernel), by decide, _, _, rfl⟩
set_option maxRecDepth 100000 in
theorem mf_X11_feelsPaper : am_mf mX11_feelsPaper 3 := ⟨am_mem 1526 rfl (by decide +kernel), am_mem 120 (by decide +kernel) (by decide +kernel), by decide +kernel, by decide, by decide +kernel⟩
theorem mv_X11_feelsPaper : am_mv mX11_feelsPaper 11 := ⟨am_mem 1525 (by decide +kernel) (by decide +kernel), am_mem 82 (by decide +kernel) (by decide +kernel), by decide, _, _, rfl⟩
set_option maxRecDepth 100000 in
theorem mf_X11_fewest : am_mf mX11_fewest 0 := ⟨am_mem 1567 rfl (by decide +kernel), am_mem 120 (by decide +kernel) (by decide +kernel), by decide +kernel, by decide, by decide +kernel⟩
theorem mv_X11_fewest : am_mv mX11_fewest 11 := ⟨am_mem 1565 (by decide +kernel) (by decide +kernel), am_mem 1566 (by decide +kernel) (by decide +kernel), by decide, _, _, rfl⟩
set_option maxRecDepth 100000 in
theorem mf_X11_free : am_mf mX11_free 1 := ⟨am_mem 1576 rfl (by decide +kernel), am_mem 120 (by decide +kernel) (by decide +kernel), by decide +kernel, by decide, by decide +kernel⟩
theorem mv_X11_free : am_mv mX11_free 11 := ⟨am_mem 1574 (by decide +kernel) (by decide +kernel), am_mem 1575 (by decide +kernel) (by decide +kernel), by decide, _, _, rfl⟩
set_option maxRecDepth 100000 in
theorem mf_X11_fromWhom : am_mf mX11_fromWhom 1 := ⟨am_mem 1690 rfl (by decide +kernel), am_mem 120 (by decide +kernel) (by decide +kernel), by decide +kernel, by decide, by decide +kernel⟩
theorem mv_X11_fromWhom : am_mv mX11_fromWhom 11 := ⟨am_mem 1689 (by decide +kernel) (by decide +kernel), am_mem 102 (by decide +kernel) (by decide +kernel), by decide, _, _, rfl⟩
set_option maxRecDepth 100000 in
theorem mf_X11_fullOf : am_mf mX11_fullOf 1 := ⟨am_mem 1368 rfl (by decide +kernel), am_mem 120 (by decide +kernel) (by decide +kernel), by decide +kernel, by decide, by decide +kernel⟩
theorem mv_X11_fullOf : am_mv mX11_fullOf 11 := ⟨am_mem 1367 (by decide +kernel) (by decide +kernel), am_mem 50 (by decide +kernel) (by decide +kernel), by decide, _, _, rfl⟩
set_option maxRecDepth 100000 in
theorem mf_X11_goesIn : am_mf mX11_goesIn 1 := ⟨am_mem 1522 rfl (by decide +kernel), am_mem 120 (by decide +kernel) (by decide +kernel), by decide +kernel, by decide, by decide +kernel⟩
theorem mv_X11_goesIn : am_mv mX11_goesIn 11 := ⟨am_mem 1521 (by decide +kernel) (by decide +kernel), am_mem 81 (by decide +kernel) (by decide +kernel), by decide, _, _, rfl⟩
set_option maxRecDepth 100000 in
theorem mf_X11_has : am_mf mX11_has 2 := ⟨am_mem 1360 rfl (by decide +kernel), am_mem 120 (by decide +kernel) (by decide +kernel), by decide +kernel, by decide, by decide +kernel⟩
theorem ms_X11_has : Cond.static yX11_has ∈ lw_g := am_mem 1359 (by decide +kernel) (by decide +kernel)
set_option maxRecDepth 100000 in
theorem mf_X11_hasOpenSum : am_mf mX11_hasOpenSum 1 := ⟨am_mem 1439 rfl (by decide +kernel), am_mem 120 (by decide +kernel) (by decide +kernel), by decide +kernel, by decide, by decide +kernel⟩
theorem mv_X11_hasOpenSum : am_mv mX11_hasOpenSum 11 := ⟨am_mem 1438 (by decide +kernel) (by decide +kernel), am_mem 64 (by decide +kernel) (by decide +kernel), by decide, _, _, rfl⟩
set_option maxRecDepth 100000 in
theorem mf_X11_heard : am_mf mX11_heard 2 := ⟨am_mem 1702 rfl (by decide +kernel), am_mem 120 (by decide +kernel) (by decide +kernel), by decide +kernel, by decide, by decide +kernel⟩
theorem mv_X11_heard : am_mv mX11_heard 11 := ⟨am_mem 1700 (by decide +kernel) (by decide +kernel), am_mem 1701 (by decide +kernel) (by decide +kernel), by decide, _, _, rfl⟩
set_option maxRecDepth 100000 in
theorem mf_X11_heirs : am_mf mX11_heirs 2 := ⟨am_mem 1686 rfl (by decide +kernel), am_mem 120 (by decide +kernel) (by decide +kernel), by decide +kernel, by decide, by decide +kernel⟩
theorem mv_X11_heirs : am_mv mX11_heirs 11 := ⟨am_mem 1684 (by decide +kernel) (by decide +kernel), am_mem 1685 (by decide +kernel) (by decide +kernel), by decide, _, _, rfl⟩
set_option maxRecDepth 100000 in
theorem mf_X11_here : am_mf mX11_here 0 := ⟨am_mem 1392 rfl (by decide +kernel), am_mem 120 (by decide +kernel) (by decide +kernel), by decide +kernel, by decide, by decide +kernel⟩
theorem mv_X11_here : am_mv mX11_here 11 := ⟨am_mem 1391 (by decide +kernel) (by decide +kernel), am_mem 54 (by decide +kernel) (by decide +kernel), by decide, _, _, rfl⟩
set_option maxRecDepth 100000 in
theorem mf_X11_holdsAny : am_mf mX11_holdsAny 1 := ⟨am_mem 1511 rfl (by decide +kernel), am_mem 120 (by decide +kernel) (by decide +kernel), by decide +kernel, by decide, by decide +kernel⟩
theorem mv_X11_holdsAny : am_mv mX11_holdsAny 11 := ⟨am_mem 1510 (by decide +kernel) (by decide +kernel), am_mem 79 (by decide +kernel) (by decide +kernel), by decide, _, _, rfl⟩
set_option maxRecDepth 100000 in
theorem mf_X11_in : am_mf mX11_in 3 := ⟨am_mem 1349 rfl (by decide +kernel), am_mem 120 (by decide +kernel) (by decide +kernel), by decide +kernel, by decide, by decide +kernel⟩
theorem ms_X11_in : Cond.static yX11_in ∈ lw_g := am_mem 1348 (by decide +kernel) (by decide +kernel)
set_option maxRecDepth 100000 in
theorem mf_X11_init : am_mf mX11_init 0 := ⟨am_mem 1150 rfl (by decide +kernel), am_mem 120 (by decide +kernel) (by decide +kernel), by decide +kernel, by decide, by decide +kernel⟩
set_option maxRecDepth 100000 in
theorem mf_X11_isAhead : am_mf mX11_isAhead 2 := ⟨am_mem 1710 rfl (by decide +kernel), am_mem 120 (by decide +kernel) (by decide +kernel), by decide +kernel, by decide, by decide +kernel⟩
theorem mv_X11_isAhead : am_mv mX11_isAhead 11 := ⟨am_mem 1709 (by decide +kernel) (by decide +kernel), am_mem 106 (by decide +kernel) (by decide +kernel), by decide, _, _, rfl⟩
set_option maxRecDepth 100000 in
theorem mf_X11_isDigit : am_mf mX11_isDigit 0 := ⟨am_mem 1413 rfl (by decide +kernel), am_mem 120 (by decide +kernel) (by decide +kernel), by decide +kernel, by decide, by decide +kernel⟩
theorem mv_X11_isDigit : am_mv mX11_isDigit 11 := ⟨am_mem 1412 (by decide +kernel) (by decide +kernel), am_mem 59 (by decide +kernel) (by decide +kernel), by decide, _, _, rfl⟩
set_option maxRecDepth 100000 in
theorem mf_X11_isDrawer : am_mf mX11_isDrawer 1 := ⟨am_mem 1357 rfl (by decide +kernel), am_mem 120 (by decide +kernel) (by decide +kernel), by decide +kernel, by decide, by decide +kernel⟩
theorem mv_X11_isDrawer : am_mv mX11_isDrawer 11 := ⟨am_mem 1356 (by decide +kernel) (by decide +kernel), am_mem 48 (by decide +kernel) (by decide +kernel), by decide, _, _, rfl⟩
set_option maxRecDepth 100000 in
theorem mf_X11_isLess : am_mf mX11_isLess 2 := ⟨am_mem 1651 rfl (by decide +kernel), am_mem 120 (by decide +kernel) (by decide +kernel), by decide +kernel, by decide, by decide +kernel⟩
theorem mv_X11_isLess : am_mv mX11_isLess 11 := ⟨am_mem 1650 (by decide +kernel) (by decide +kernel), am_mem 99 (by decide +kernel) (by decide +kernel), by decide, _, _, rfl⟩
set_option maxRecDepth 100000 in
theorem mf_X11_isLike : am_mf mX11_isLike 2 := ⟨am_mem 1620 rfl (by decide +kernel), am_mem 120 (by decide +kernel) (by decide +kernel), by decide +kernel, by decide, by decide +kernel⟩
theorem mv_X11_isLike : am_mv mX11_isLike 11 := ⟨am_mem 1619 (by decide +kernel) (by decide +kernel), am_mem 94 (by decide +kernel) (by decide +kernel), by decide, _, _, rfl⟩
set_option maxRecDepth 100000 in
theorem mf_X11_isPaper : am_mf mX11_isPaper 1 := ⟨am_mem 1346 rfl (by decide +kernel), am_mem 120 (by decide +kernel) (by decide +kernel), by decide +kernel, by decide, by decide +kernel⟩
theorem mv_X11_isPaper : am_mv mX11_isPaper 11 := ⟨am_mem 1345 (by decide +kernel) (by decide +kernel), am_mem 46 (by decide +kernel) (by decide +kernel), by decide, _, _, rfl⟩
set_option maxRecDepth 100000 in
theorem mf_X11_isPeeped : am_mf mX11_isPeeped 1 := ⟨am_mem 1534 rfl (by decide +kernel), am_mem 120 (by decide +kernel) (by decide +kernel), by decide +kernel, by decide, by decide +kernel⟩
theorem mv_X11_isPeeped : am_mv mX11_isPeeped 11 := ⟨am_mem 1533 (by decide +kernel) (by decide +kernel), am_mem 84 (by decide +kernel) (by decide +kernel), by decide, _, _, rfl⟩
set_option maxRecDepth 100000 in
theorem mf_X11_jumps : am_mf mX11_jumps 1 := ⟨am_mem 1459 rfl (by decide +kernel), am_mem 120 (by decide +kernel) (by decide +kernel), by decide +kernel, by decide, by decide +kernel⟩
theorem mv_X11_jumps : am_mv mX11_jumps 11 := ⟨am_mem 1458 (by decide +kernel) (by decide +kernel), am_mem 69 (by decide +kernel) (by decide +kernel), by decide, _, _, rfl⟩
set_option maxRecDepth 100000 in
theorem mf_X11_keep : am_mf mX11_keep 0 := ⟨am_mem 1723 rfl (by decide +kernel), am_mem 120 (by decide +kernel) (by decide +kernel), by decide +kernel, by decide, by decide +kernel⟩
theorem mv_X11_keep : am_mv mX11_keep 11 := ⟨am_mem 1721 (by decide +kernel) (by decide +kernel), am_mem 1722 (by decide +kernel) (by decide +kernel), by decide, _, _, rfl⟩
set_option maxRecDepth 100000 in
theorem mf_X11_lands : am_mf mX11_lands 1 := ⟨am_mem 1455 rfl (by decide +kernel), am_mem 120 (by decide +kernel) (by decide +kernel), by decide +kernel, by decide, by decide +kernel⟩
theorem mv_X11_lands : am_mv mX11_lands 11 := ⟨am_mem 1454 (by decide +kernel) (by decide +kernel), am_mem 68 (by decide +kernel) (by decide +kernel), by decide, _, _, rfl⟩
set_option maxRecDepth 100000 in
theorem mf_X11_law : am_mf mX11_law 1 := ⟨am_mem 1380 rfl (by decide +kernel), am_mem 120 (by decide +kernel) (by decide +kernel), by decide +kernel, by decide, by decide +kernel⟩
theorem mv_X11_law : am_mv mX11_law 11 := ⟨am_mem 1378 (by decide +kernel) (by decide +kernel), am_mem 1379 (by decide +kernel) (by decide +kernel), by decide, _, _, rfl⟩
set_option maxRecDepth 100000 in
theorem mf_X11_laysLine : am_mf mX11_laysLine 1 := ⟨am_mem 1694 rfl (by decide +kernel), am_mem 120 (by decide +kernel) (by decide +kernel), by decide +kernel, by decide, by decide +kernel⟩
theorem mv_X11_laysLine : am_mv mX11_laysLine 11 := ⟨am_mem 1693 (by decide +kernel) (by decide +kernel), am_mem 103 (by decide +kernel) (by decide +kernel), by decide, _, _, rfl⟩
set_option maxRecDepth 100000 in
theorem mf_X11_laysMoves : am_mf mX11_laysMoves 2 := ⟨am_mem 1639 rfl (by decide +kernel), am_mem 120 (by decide +kernel) (by decide +kernel), by decide +kernel, by decide, by decide +kernel⟩
theorem mv_X11_laysMoves : am_mv mX11_laysMoves 11 := ⟨am_mem 1638 (by decide +kernel) (by decide +kernel), am_mem 97 (by decide +kernel) (by decide +kernel), by decide, _, _, rfl⟩
set_option maxRecDepth 100000 in
theorem mf_X11_laysSquare : am_mf mX11_laysSquare 2 := ⟨am_mem 1674 rfl (by decide +kernel), am_mem 120 (by decide +kernel) (by decide +kernel), by decide +kernel, by decide, by decide +kernel⟩
theorem mv_X11_laysSquare : am_mv mX11_laysSquare 11 := ⟨am_mem 1673 (by decide +kernel) (by decide +kernel), am_mem 100 (by decide +kernel) (by decide +kernel), by decide, _, _, rfl⟩
set_option maxRecDepth 100000 in
theorem mf_X11_laysSums : am_mf mX11_laysSums 0 := ⟨am_mem 1571 rfl (by decide +kernel), am_mem 120 (by decide +kernel) (by decide +kernel), by decide +kernel, by decide, by decide +kernel⟩
theorem mv_X11_laysSums : am_mv mX11_laysSums 11 := ⟨am_mem 1570 (by decide +kernel) (by decide +kernel), am_mem 86 (by decide +kernel) (by decide +kernel), by decide, _, _, rfl⟩
set_option maxRecDepth 100000 in
theorem mf_X11_longestLike : am_mf mX11_longestLike 0 := ⟨am_mem 1624 rfl (by decide +kernel), am_mem 120 (by decide +kernel) (by decide +kernel), by decide +kernel, by decide, by decide +kernel⟩
theorem mv_X11_longestLike : am_mv mX11_longestLike 11 := ⟨am_mem 1623 (by decide +kernel) (by decide +kernel), am_mem 95 (by decide +kernel) (by decide +kernel), by decide, _, _, rfl⟩
set_option maxRecDepth 100000 in
theorem mf_X11_longestRow : am_mf mX11_longestRow 2 := ⟨am_mem 1666 rfl (by decide +kernel), am_mem 120 (by decide +kernel) (by decide +kernel), by decide +kernel, by decide, by decide +kernel⟩
theorem ms_X11_longestRow : Cond.static yX11_longestRow ∈ lw_g := am_mem 1665 (by decide +kernel) (by decide +kernel)
set_option maxRecDepth 100000 in
theorem mf_X11_max : am_mf mX11_max 2 := ⟨am_mem 1627 rfl (by decide +kernel), am_mem 120 (by decide +kernel) (by decide +kernel), by decide +kernel, by decide, by decide +kernel⟩
theorem ms_X11_max : Cond.static yX11_max ∈ lw_g := am_mem 1626 (by decide +kernel) (by decide +kernel)
set_option maxRecDepth 100000 in
theorem mf_X11_min : am_mf mX11_min 2 := ⟨am_mem 1537 rfl (by decide +kernel), am_mem 120 (by decide +kernel) (by decide +kernel), by decide +kernel, by decide, by decide +kernel⟩
theorem ms_X11_min : Cond.static yX11_min ∈ lw_g := am_mem 1536 (by decide +kernel) (by decide +kernel)
set_option maxRecDepth 100000 in
theorem mf_X11_mostOften : am_mf mX11_mostOften 0 := ⟨am_mem 1604 rfl (by decide +kernel), am_mem 120 (by decide +kernel) (by decide +kernel), by decide +kernel, by decide, by decide +kernel⟩
theorem mv_X11_mostOften : am_mv mX11_mostOften 11 := ⟨am_mem 1603 (by decide +kernel) (by decide +kernel), am_mem 90 (by decide +kernel) (by decide +kernel), by decide, _, _, rfl⟩
set_option maxRecDepth 100000 in
theorem mf_X11_nest : am_mf mX11_nest 1 := ⟨am_mem 1647 rfl (by decide +kernel), am_mem 120 (by decide +kernel) (by decide +kernel), by decide +kernel, by decide, by decide +kernel⟩
theorem mv_X11_nest : am_mv mX11_nest 11 := ⟨am_mem 1645 (by decide +kernel) (by decide +kernel), am_mem 1646 (by decide +kernel) (by decide +kernel), by decide, _, _, rfl⟩
set_option maxRecDepth 100000 in
theorem mf_X11_nextHeir : am_mf mX11_nextHeir 3 := ⟨am_mem 1698 rfl (by decide +kernel), am_mem 120 (by decide +kernel) (by decide +kernel), by decide +kernel, by decide, by decide +kernel⟩
theorem mv_X11_nextHeir : am_mv mX11_nextHeir 11 := ⟨am_mem 1697 (by decide +kernel) (by decide +kernel), am_mem 104 (by decide +kernel) (by decide +kernel), by decide, _, _, rfl⟩
set_option maxRecDepth 100000 in
theorem mf_X11_notes : am_mf mX11_notes 2 := ⟨am_mem 1421 rfl (by decide +kernel), am_mem 120 (by decide +kernel) (by decide +kernel), by decide +kernel, by decide, by decide +kernel⟩
theorem mv_X11_notes : am_mv mX11_notes 11 := ⟨am_mem 1420 (by decide +kernel) (by decide +kernel), am_mem 61 (by decide +kernel) (by decide +kernel), by decide, _, _, rfl⟩
set_option maxRecDepth 100000 in
theorem mf_X11_octet : am_mf mX11_octet 1 := ⟨am_mem 1635 rfl (by decide +kernel), am_mem 120 (by decide +kernel) (by decide +kernel), by decide +kernel, by decide, by decide +kernel⟩
theorem mv_X11_octet : am_mv mX11_octet 11 := ⟨am_mem 1634 (by decide +kernel) (by decide +kernel), am_mem 96 (by decide +kernel) (by decide +kernel), by decide, _, _, rfl⟩
set_option maxRecDepth 100000 in
theorem mf_X11_ofSubject : am_mf mX11_ofSubject 2 := ⟨am_mem 1580 rfl (by decide +kernel), am_mem 120 (by decide +kernel) (by decide +kernel), by decide +kernel, by decide, by decide +kernel⟩
theorem mv_X11_ofSubject : am_mv mX11_ofSubject 11 := ⟨am_mem 1578 (by decide +kernel) (by decide +kernel), am_mem 1579 (by decide +kernel) (by decide +kernel), by decide, _, _, rfl⟩
set_option maxRecDepth 100000 in
theorem mf_X11_oftenOf : am_mf mX11_oftenOf 1 := ⟨am_mem 1608 rfl (by decide +kernel), am_mem 120 (by decide +kernel) (by decide +kernel), by decide +kernel, by decide, by decide +kernel⟩
theorem mv_X11_oftenOf : am_mv mX11_oftenOf 11 := ⟨am_mem 1607 (by decide +kernel) (by decide +kernel), am_mem 91 (by decide +kernel) (by decide +kernel), by decide, _, _, rfl⟩
set_option maxRecDepth 100000 in
theorem mf_X11_oldest : am_mf mX11_oldest 0 := ⟨am_mem 1584 rfl (by decide +kernel), am_mem 120 (by decide +kernel) (by decide +kernel), by decide +kernel, by decide, by decide +kernel⟩
theorem mv_X11_oldest : am_mv mX11_oldest 11 := ⟨am_mem 1582 (by decide +kernel) (by decide +kernel), am_mem 1583 (by decide +kernel) (by decide +kernel), by decide, _, _, rfl⟩
set_option maxRecDepth 100000 in
theorem mf_X11_opens : am_mf mX11_opens 1 := ⟨am_mem 1408 rfl (by decide +kernel), am_mem 120 (by decide +kernel) (by decide +kernel), by decide +kernel, by decide, by decide +kernel⟩
theorem mv_X11_opens : am_mv mX11_opens 11 := ⟨am_mem 1407 (by decide +kernel) (by decide +kernel), am_mem 58 (by decide +kernel) (by decide +kernel), by decide, _, _, rfl⟩
set_option maxRecDepth 100000 in
theorem mf_X11_orNone : am_mf mX11_orNone 1 := ⟨am_mem 1551 rfl (by decide +kernel), am_mem 120 (by decide +kernel) (by decide +kernel), by decide +kernel, by decide, by decide +kernel⟩
theorem ms_X11_orNone : Cond.static yX11_orNone ∈ lw_g := am_mem 1550 (by decide +kernel) (by decide +kernel)
set_option maxRecDepth 100000 in
theorem mf_X11_paperIs : am_mf mX11_paperIs 2 := ⟨am_mem 1559 rfl (by decide +kernel), am_mem 120 (by decide +kernel) (by decide +kernel), by decide +kernel, by decide, by decide +kernel⟩
theorem mv_X11_paperIs : am_mv mX11_paperIs 11 := ⟨am_mem 1557 (by decide +kernel) (by decide +kernel), am_mem 1558 (by decide +kernel) (by decide +kernel), by decide, _, _, rfl⟩
set_option maxRecDepth 100000 in
theorem mf_X11_papersIn : am_mf mX11_papersIn 1 := ⟨am_mem 1504 rfl (by decide +kernel), am_mem 120 (by decide +kernel) (by decide +kernel), by decide +kernel, by decide, by decide +kernel⟩
theorem mv_X11_papersIn : am_mv mX11_papersIn 11 := ⟨am_mem 1503 (by decide +kernel) (by decide +kernel), am_mem 78 (by decide +kernel) (by decide +kernel), by decide, _, _, rfl⟩
set_option maxRecDepth 100000 in
theorem mf_X11_piecesOf : am_mf mX11_piecesOf 2 := ⟨am_mem 1682 rfl (by decide +kernel), am_mem 120 (by decide +kernel) (by decide +kernel), by decide +kernel, by decide, by decide +kernel⟩
theorem mv_X11_piecesOf : am_mv mX11_piecesOf 11 := ⟨am_mem 1681 (by decide +kernel) (by decide +kernel), am_mem 101 (by decide +kernel) (by decide +kernel), by decide, _, _, rfl⟩
set_option maxRecDepth 100000 in
theorem mf_X11_pigeonholes : am_mf mX11_pigeonholes 3 := ⟨am_mem 1663 rfl (by decide +kernel), am_mem 120 (by decide +kernel) (by decide +kernel), by decide +kernel, by decide, by decide +kernel⟩
theorem mv_X11_pigeonholes : am_mv mX11_pigeonholes 11 := ⟨am_mem 1661 (by decide +kernel) (by decide +kernel), am_mem 1662 (by decide +kernel) (by decide +kernel), by decide, _, _, rfl⟩
set_option maxRecDepth 100000 in
theorem mf_X11_planked : am_mf mX11_planked 2 := ⟨am_mem 1670 rfl (by decide +kernel), am_mem 120 (by decide +kernel) (by decide +kernel), by decide +kernel, by decide, by decide +kernel⟩
theorem mv_X11_planked : am_mv mX11_planked 11 := ⟨am_mem 1668 (by decide +kernel) (by decide +kernel), am_mem 1669 (by decide +kernel) (by decide +kernel), by decide, _, _, rfl⟩
set_option maxRecDepth 100000 in
theorem mf_X11_put : am_mf mX11_put 2 := ⟨am_mem 1342 rfl (by decide +kernel), am_mem 120 (by decide +kernel) (by decide +kernel), by decide +kernel, by decide, by decide +kernel⟩
theorem mv_X11_put : am_mv mX11_put 11 := ⟨am_mem 1340 (by decide +kernel) (by decide +kernel), am_mem 1341 (by decide +kernel) (by decide +kernel), by decide, _, _, rfl⟩
set_option maxRecDepth 100000 in
theorem mf_X11_readSet : am_mf mX11_readSet 0 := ⟨am_mem 1548 rfl (by decide +kernel), am_mem 120 (by decide +kernel) (by decide +kernel), by decide +kernel, by decide, by decide +kernel⟩
theorem mv_X11_readSet : am_mv mX11_readSet 11 := ⟨am_mem 1547 (by decide +kernel) (by decide +kernel), am_mem 85 (by decide +kernel) (by decide +kernel), by decide, _, _, rfl⟩
set_option maxRecDepth 100000 in
theorem mf_X11_readsCompared : am_mf mX11_readsCompared 0 := ⟨am_mem 1447 rfl (by decide +kernel), am_mem 120 (by decide +kernel) (by decide +kernel), by decide +kernel, by decide, by decide +kernel⟩
theorem mv_X11_readsCompared : am_mv mX11_readsCompared 11 := ⟨am_mem 1446 (by decide +kernel) (by decide +kernel), am_mem 66 (by decide +kernel) (by decide +kernel), by decide, _, _, rfl⟩
set_option maxRecDepth 100000 in
theorem mf_X11_readsCondition : am_mf mX11_readsCondition 0 := ⟨am_mem 1443 rfl (by decide +kernel), am_mem 120 (by decide +kernel) (by decide +kernel), by decide +kernel, by decide, by decide +kernel⟩
theorem mv_X11_readsCondition : am_mv mX11_readsCondition 11 := ⟨am_mem 1442 (by decide +kernel) (by decide +kernel), am_mem 65 (by decide +kernel) (by decide +kernel), by decide, _, _, rfl⟩
set_option maxRecDepth 100000 in
theorem mf_X11_readsFactor : am_mf mX11_readsFactor 0 := ⟨am_mem 1404 rfl (by decide +kernel), am_mem 120 (by decide +kernel) (by decide +kernel), by decide +kernel, by decide, by decide +kernel⟩
theorem mv_X11_readsFactor : am_mv mX11_readsFactor 11 := ⟨am_mem 1403 (by decide +kernel) (by decide +kernel), am_mem 57 (by decide +kernel) (by decide +kernel), by decide, _, _, rfl⟩
set_option maxRecDepth 100000 in
theorem mf_X11_readsLetter : am_mf mX11_readsLetter 0 := ⟨am_mem 1592 rfl (by decide +kernel), am_mem 120 (by decide +kernel) (by decide +kernel), by decide +kernel, by decide, by decide +kernel⟩
theorem mv_X11_readsLetter : am_mv mX11_readsLetter 11 := ⟨am_mem 1591 (by decide +kernel) (by decide +kernel), am_mem 87 (by decide +kernel) (by decide +kernel), by decide, _, _, rfl⟩
set_option maxRecDepth 100000 in
theorem mf_X11_readsLine : am_mf mX11_readsLine 0 := ⟨am_mem 1471 rfl (by decide +kernel), am_mem 120 (by decide +kernel) (by decide +kernel), by decide +kernel, by decide, by decide +kernel⟩
theorem mv_X11_readsLine : am_mv mX11_readsLine 11 := ⟨am_mem 1470 (by decide +kernel) (by decide +kernel), am_mem 71 (by decide +kernel) (by decide +kernel), by decide, _, _, rfl⟩
set_option maxRecDepth 100000 in
theorem mf_X11_readsNumber : am_mf mX11_readsNumber 0 := ⟨am_mem 1417 rfl (by decide +kernel), am_mem 120 (by decide +kernel) (by decide +kernel), by decide +kernel, by decide, by decide +kernel⟩
theorem mv_X11_readsNumber : am_mv mX11_readsNumber 11 := ⟨am_mem 1416 (by decide +kernel) (by decide +kernel), am_mem 60 (by decide +kernel) (by decide +kernel), by decide, _, _, rfl⟩
set_option maxRecDepth 100000 in
theorem mf_X11_readsPaper : am_mf mX11_readsPaper 0 := ⟨am_mem 1475 rfl (by decide +kernel), am_mem 120 (by decide +kernel) (by decide +kernel), by decide +kernel, by decide, by decide +kernel⟩
theorem mv_X11_readsPaper : am_mv mX11_readsPaper 11 := ⟨am_mem 1474 (by decide +kernel) (by decide +kernel), am_mem 72 (by decide +kernel) (by decide +kernel), by decide, _, _, rfl⟩
set_option maxRecDepth 100000 in
theorem mf_X11_readsRoom : am_mf mX11_readsRoom 1 := ⟨am_mem 1479 rfl (by decide +kernel), am_mem 120 (by decide +kernel) (by decide +kernel), by decide +kernel, by decide, by decide +kernel⟩
theorem mv_X11_readsRoom : am_mv mX11_readsRoom 11 := ⟨am_mem 1478 (by decide +kernel) (by decide +kernel), am_mem 73 (by decide +kernel) (by decide +kernel), by decide, _, _, rfl⟩
set_option maxRecDepth 100000 in
theorem mf_X11_readsRule : am_mf mX11_readsRule 0 := ⟨am_mem 1388 rfl (by decide +kernel), am_mem 120 (by decide +kernel) (by decide +kernel), by decide +kernel, by decide, by decide +kernel⟩
theorem mv_X11_readsRule : am_mv mX11_readsRule 11 := ⟨am_mem 1387 (by decide +kernel) (by decide +kernel), am_mem 53 (by decide +kernel) (by decide +kernel), by decide, _, _, rfl⟩
set_option maxRecDepth 100000 in
theorem mf_X11_readsSum : am_mf mX11_readsSum 0 := ⟨am_mem 1400 rfl (by decide +kernel), am_mem 120 (by decide +kernel) (by decide +kernel), by decide +kernel, by decide, by decide +kernel⟩
theorem mv_X11_readsSum : am_mv mX11_readsSum 11 := ⟨am_mem 1399 (by decide +kernel) (by decide +kernel), am_mem 56 (by decide +kernel) (by decide +kernel), by decide, _, _, rfl⟩
set_option maxRecDepth 100000 in
theorem mf_X11_readsTimes : am_mf mX11_readsTimes 0 := ⟨am_mem 1596 rfl (by decide +kernel), am_mem 120 (by decide +kernel) (by decide +kernel), by decide +kernel, by decide, by decide +kernel⟩
theorem mv_X11_readsTimes : am_mv mX11_readsTimes 11 := ⟨am_mem 1595 (by decide +kernel) (by decide +kernel), am_mem 88 (by decide +kernel) (by decide +kernel), by decide, _, _, rfl⟩
set_option maxRecDepth 100000 in
theorem mf_X11_reckon : am_mf mX11_reckon 3 := ⟨am_mem 1518 rfl (by decide +kernel), am_mem 120 (by decide +kernel) (by decide +kernel), by decide +kernel, by decide, by decide +kernel⟩
theorem ms_X11_reckon : Cond.static yX11_reckon ∈ lw_g := am_mem 1517 (by decide +kernel) (by decide +kernel)
set_option maxRecDepth 100000 in
theorem mf_X11_reckonsTo : am_mf mX11_reckonsTo 2 := ⟨am_mem 1515 rfl (by decide +kernel), am_mem 120 (by decide +kernel) (by decide +kernel), by decide +kernel, by decide, by decide +kernel⟩
theorem mv_X11_reckonsTo : am_mv mX11_reckonsTo 11 := ⟨am_mem 1514 (by decide +kernel) (by decide +kernel), am_mem 80 (by decide +kernel) (by decide +kernel), by decide, _, _, rfl⟩
set_option maxRecDepth 100000 in
theorem mf_X11_repeats : am_mf mX11_repeats 3 := ⟨am_mem 1600 rfl (by decide +kernel), am_mem 120 (by decide +kernel) (by decide +kernel), by decide +kernel, by decide, by decide +kernel⟩
theorem mv_X11_repeats : am_mv mX11_repeats 11 := ⟨am_mem 1599 (by decide +kernel) (by decide +kernel), am_mem 89 (by decide +kernel) (by decide +kernel), by decide, _, _, rfl⟩
set_option maxRecDepth 100000 in
theorem mf_X11_roomLeft : am_mf mX11_roomLeft 1 := ⟨am_mem 1364 rfl (by decide +kernel), am_mem 120 (by decide +kernel) (by decide +kernel), by decide +kernel, by decide, by decide +kernel⟩
theorem mv_X11_roomLeft : am_mv mX11_roomLeft 11 := ⟨am_mem 1363 (by decide +kernel) (by decide +kernel), am_mem 49 (by decide +kernel) (by decide +kernel), by decide, _, _, rfl⟩
set_option maxRecDepth 100000 in
theorem mf_X11_secret : am_mf mX11_secret 3 := ⟨am_mem 1631 rfl (by decide +kernel), am_mem 120 (by decide +kernel) (by decide +kernel), by decide +kernel, by decide, by decide +kernel⟩
theorem mv_X11_secret : am_mv mX11_secret 11 := ⟨am_mem 1629 (by decide +kernel) (by decide +kernel), am_mem 1630 (by decide +kernel) (by decide +kernel), by decide, _, _, rfl⟩
set_option maxRecDepth 100000 in
theorem mf_X11_seed : am_mf mX11_seed 1 := ⟨am_mem 1718 rfl (by decide +kernel), am_mem 120 (by decide +kernel) (by decide +kernel), by decide +kernel, by decide, by decide +kernel⟩
theorem mv_X11_seed : am_mv mX11_seed 11 := ⟨am_mem 1716 (by decide +kernel) (by decide +kernel), am_mem 1717 (by decide +kernel) (by decide +kernel), by decide, _, _, rfl⟩
set_option maxRecDepth 100000 in
theorem mf_X11_shut : am_mf mX11_shut 1 := ⟨am_mem 1563 rfl (by decide +kernel), am_mem 120 (by decide +kernel) (by decide +kernel), by decide +kernel, by decide, by decide +kernel⟩
theorem mv_X11_shut : am_mv mX11_shut 11 := ⟨am_mem 1561 (by decide +kernel) (by decide +kernel), am_mem 1562 (by decide +kernel) (by decide +kernel), by decide, _, _, rfl⟩
set_option maxRecDepth 100000 in
theorem mf_X11_slip : am_mf mX11_slip 2 := ⟨am_mem 1588 rfl (by decide +kernel), am_mem 120 (by decide +kernel) (by decide +kernel), by decide +kernel, by decide, by decide +kernel⟩
theorem mv_X11_slip : am_mv mX11_slip 11 := ⟨am_mem 1586 (by decide +kernel) (by decide +kernel), am_mem 1587 (by decide +kernel) (by decide +kernel), by decide, _, _, rfl⟩
set_option maxRecDepth 100000 in
theorem mf_X11_sumSign : am_mf mX11_sumSign 1 := ⟨am_mem 1427 rfl (by decide +kernel), am_mem 120 (by decide +kernel) (by decide +kernel), by decide +kernel, by decide, by decide +kernel⟩
theorem ms_X11_sumSign : Cond.static yX11_sumSign ∈ lw_g := am_mem 1426 (by decide +kernel) (by decide +kernel)
set_option maxRecDepth 100000 in
theorem mf_X11_sumUp : am_mf mX11_sumUp 1 := ⟨am_mem 1739 rfl (by decide +kernel), am_mem 120 (by decide +kernel) (by decide +kernel), by decide +kernel, by decide, by decide +kernel⟩
theorem mv_X11_sumUp : am_mv mX11_sumUp 11 := ⟨am_mem 1738 (by decide +kernel) (by decide +kernel), am_mem 107 (by decide +kernel) (by decide +kernel), by decide, _, _, rfl⟩
set_option maxRecDepth 100000 in
theorem mf_X11_takes : am_mf mX11_takes 1 := ⟨am_mem 1463 rfl (by decide +kernel), am_mem 120 (by decide +kernel) (by decide +kernel), by decide +kernel, by decide, by decide +kernel⟩
theorem mv_X11_takes : am_mv mX11_takes 11 := ⟨am_mem 1462 (by decide +kernel) (by decide +kernel), am_mem 70 (by decide +kernel) (by decide +kernel), by decide, _, _, rfl⟩
set_option maxRecDepth 100000 in
theorem mf_X11_takesOut : am_mf mX11_takesOut 1 := ⟨am_mem 1353 rfl (by decide +kernel), am_mem 120 (by decide +kernel) (by decide +kernel), by decide +kernel, by decide, by decide +kernel⟩
theorem mv_X11_takesOut : am_mv mX11_takesOut 11 := ⟨am_mem 1352 (by decide +kernel) (by decide +kernel), am_mem 47 (by decide +kernel) (by decide +kernel), by decide, _, _, rfl⟩
set_option maxRecDepth 100000 in
theorem mf_X11_ticks : am_mf mX11_ticks 2 := ⟨am_mem 1714 rfl (by decide +kernel), am_mem 120 (by decide +kernel) (by decide +kernel), by decide +kernel, by decide, by decide +kernel⟩
theorem mv_X11_ticks : am_mv mX11_ticks 11 := ⟨am_mem 1712 (by decide +kernel) (by decide +kernel), am_mem 1713 (by decide +kernel) (by decide +kernel), by decide, _, _, rfl⟩
set_option maxRecDepth 100000 in
theorem mf_X11_tried : am_mf mX11_tried 2 := ⟨am_mem 1541 rfl (by decide +kernel), am_mem 120 (by decide +kernel) (by decide +kernel), by decide +kernel, by decide, by decide +kernel⟩
theorem mv_X11_tried : am_mv mX11_tried 11 := ⟨am_mem 1539 (by decide +kernel) (by decide +kernel), am_mem 1540 (by decide +kernel) (by decide +kernel), by decide, _, _, rfl⟩
set_option maxRecDepth 100000 in
theorem mf_X11_types : am_mf mX11_types 1 := ⟨am_mem 1376 rfl (by decide +kernel), am_mem 120 (by decide +kernel) (by decide +kernel), by decide +kernel, by decide, by decide +kernel⟩
theorem mv_X11_types : am_mv mX11_types 11 := ⟨am_mem 1375 (by decide +kernel) (by decide +kernel), am_mem 51 (by decide +kernel) (by decide +kernel), by decide, _, _, rfl⟩
set_option maxRecDepth 100000 in
theorem mf_X11_undo : am_mf mX11_undo 0 := ⟨am_mem 1727 rfl (by decide +kernel), am_mem 120 (by decide +kernel) (by decide +kernel), by decide +kernel, by decide, by decide +kernel⟩
theorem mv_X11_undo : am_mv mX11_undo 11 := ⟨am_mem 1725 (by decide +kernel) (by decide +kernel), am_mem 1726 (by decide +kernel) (by decide +kernel), by decide, _, _, rfl⟩
set_option maxRecDepth 100000 in
theorem mf_X11_unions : am_mf mX11_unions 3 := ⟨am_mem 1678 rfl (by decide +kernel), am_mem 120 (by decide +kernel) (by decide +kernel), by decide +kernel, by decide, by decide +kernel⟩
theorem mv_X11_unions : am_mv mX11_unions 11 := ⟨am_mem 1676 (by decide +kernel) (by decide +kernel), am_mem 1677 (by decide +kernel) (by decide +kernel), by decide, _, _, rfl⟩
set_option maxRecDepth 100000 in
theorem mf_X11_vowelsBy : am_mf mX11_vowelsBy 1 := ⟨am_mem 1616 rfl (by decide +kernel), am_mem 120 (by decide +kernel) (by decide +kernel), by decide +kernel, by decide, by decide +kernel⟩
theorem mv_X11_vowelsBy : am_mv mX11_vowelsBy 11 := ⟨am_mem 1615 (by decide +kernel) (by decide +kernel), am_mem 93 (by decide +kernel) (by decide +kernel), by decide, _, _, rfl⟩
set_option maxRecDepth 100000 in
theorem mf_X11_waitTop : am_mf mX11_waitTop 0 := ⟨am_mem 1435 rfl (by decide +kernel), am_mem 120 (by decide +kernel) (by decide +kernel), by decide +kernel, by decide, by decide +kernel⟩
theorem mv_X11_waitTop : am_mv mX11_waitTop 11 := ⟨am_mem 1434 (by decide +kernel) (by decide +kernel), am_mem 63 (by decide +kernel) (by decide +kernel), by decide, _, _, rfl⟩
set_option maxRecDepth 100000 in
theorem mf_X11_wrongAt : am_mf mX11_wrongAt 2 := ⟨am_mem 1396 rfl (by decide +kernel), am_mem 120 (by decide +kernel) (by decide +kernel), by decide +kernel, by decide, by decide +kernel⟩
theorem mv_X11_wrongAt : am_mv mX11_wrongAt 11 := ⟨am_mem 1395 (by decide +kernel) (by decide +kernel), am_mem 55 (by decide +kernel) (by decide +kernel), by decide, _, _, rfl⟩
set_option maxRecDepth 100000 in
theorem mf_X1_init : am_mf mX1_init 1 := ⟨am_mem 180 rfl (by decide +kernel), am_mem 112 (by decide +kernel) (by decide +kernel), by decide +kernel, by decide, by decide +kernel⟩
set_option maxRecDepth 100000 in
theorem mf_X1_isDrawerLetter : am_mf mX1_isDrawerLetter 1 := ⟨am_mem 720 rfl (by decide +kernel), am_mem 112 (by decide +kernel) (by decide +kernel), by decide +kernel, by decide, by decide +kernel⟩
theorem ms_X1_isDrawerLetter : Cond.static yX1_isDrawerLetter ∈ lw_g := am_mem 719 (by decide +kernel) (by decide +kernel)
set_option maxRecDepth 100000 in
theorem mf_X1_read : am_mf mX1_read 2 := ⟨am_mem 703 rfl (by decide +kernel), am_mem 112 (by decide +kernel) (by decide +kernel), by decide +kernel, by decide, by decide +kernel⟩
theorem mv_X1_read : am_mv mX1_read 1 := ⟨am_mem 701 (by decide +kernel) (by decide +kernel), am_mem 702 (by decide +kernel) (by decide +kernel), by decide, _, _, rfl⟩
set_option maxRecDepth 100000 in
theorem mf_X1_readDrawer : am_mf mX1_readDrawer 2 := ⟨am_mem 725 rfl (by decide +kernel), am_mem 112 (by decide +kernel) (by decide +kernel), by decide +kernel, by decide, by decide +kernel⟩
theorem mv_X1_readDrawer : am_mv mX1_readDrawer 1 := ⟨am_mem 724 (by decide +kernel) (by decide +kernel), am_mem 12 (by decide +kernel) (by decide +kernel), by decide, _, _, rfl⟩
set_option maxRecDepth 100000 in
theorem mf_X1_readItsDrawer : am_mf mX1_readItsDrawer 1 := ⟨am_mem 749 rfl (by decide +kernel), am_mem 112 (by decide +kernel) (by decide +kernel), by decide +kernel, by decide, by decide +kernel⟩
theorem mv_X1_readItsDrawer : am_mv mX1_readItsDrawer 1 := ⟨am_mem 748 (by decide +kernel) (by decide +kernel), am_mem 15 (by decide +kernel) (by decide +kernel), by decide, _, _, rfl⟩
set_option maxRecDepth 100000 in
theorem mf_X1_readLine : am_mf mX1_readLine 2 := ⟨am_mem 716 rfl (by decide +kernel), am_mem 112 (by decide +kernel) (by decide +kernel), by decide +kernel, by decide, by decide +kernel⟩
theorem mv_X1_readLine : am_mv mX1_readLine 1 := ⟨am_mem 715 (by decide +kernel) (by decide +kernel), am_mem 11 (by decide +kernel) (by decide +kernel), by decide, _, _, rfl⟩
set_option maxRecDepth 100000 in
theorem mf_X1_readPaper : am_mf mX1_readPaper 2 := ⟨am_mem 741 rfl (by decide +kernel), am_mem 112 (by decide +kernel) (by decide +kernel), by decide +kernel, by decide, by decide +kernel⟩
theorem mv_X1_readPaper : am_mv mX1_readPaper 1 := ⟨am_mem 740 (by decide +kernel) (by decide +kernel), am_mem 14 (by decide +kernel) (by decide +kernel), by decide, _, _, rfl⟩
set_option maxRecDepth 100000 in
theorem mf_X1_readRoom : am_mf mX1_readRoom 0 := ⟨am_mem 731 rfl (by decide +kernel), am_mem 112 (by decide +kernel) (by decide +kernel), by decide +kernel, by decide, by decide +kernel⟩
theorem mv_X1_readRoom : am_mv mX1_readRoom 1 := ⟨am_mem 730 (by decide +kernel) (by decide +kernel), am_mem 13 (by decide +kernel) (by decide +kernel), by decide, _, _, rfl⟩
set_option maxRecDepth 100000 in
theorem mf_X2_findStuck : am_mf mX2_findStuck 2 := ⟨am_mem 768 rfl (by decide +kernel), am_mem 114 (by decide +kernel) (by decide +kernel), by decide +kernel, by decide, by decide +kernel⟩
theorem mv_X2_findStuck : am_mv mX2_findStuck 2 := ⟨am_mem 767 (by decide +kernel) (by decide +kernel), am_mem 16 (by decide +kernel) (by decide +kernel), by decide, _, _, rfl⟩
set_option maxRecDepth 100000 in
theorem mf_X2_mostWished : am_mf mX2_mostWished 3 := ⟨am_mem 810 rfl (by decide +kernel), am_mem 114 (by decide +kernel) (by decide +kernel), by decide +kernel, by decide, by decide +kernel⟩
theorem mv_X2_mostWished : am_mv mX2_mostWished 2 := ⟨am_mem 809 (by decide +kernel) (by decide +kernel), am_mem 21 (by decide +kernel) (by decide +kernel), by decide, _, _, rfl⟩
set_option maxRecDepth 100000 in
theorem mf_X2_pass : am_mf mX2_pass 3 := ⟨am_mem 764 rfl (by decide +kernel), am_mem 114 (by decide +kernel) (by decide +kernel), by decide +kernel, by decide, by decide +kernel⟩
theorem mv_X2_pass : am_mv mX2_pass 2 := ⟨am_mem 762 (by decide +kernel) (by decide +kernel), am_mem 763 (by decide +kernel) (by decide +kernel), by decide, _, _, rfl⟩
set_option maxRecDepth 100000 in
theorem mf_X2_putPapersIn : am_mf mX2_putPapersIn 2 := ⟨am_mem 802 rfl (by decide +kernel), am_mem 114 (by decide +kernel) (by decide +kernel), by decide +kernel, by decide, by decide +kernel⟩
theorem mv_X2_putPapersIn : am_mv mX2_putPapersIn 2 := ⟨am_mem 801 (by decide +kernel) (by decide +kernel), am_mem 20 (by decide +kernel) (by decide +kernel), by decide, _, _, rfl⟩
set_option maxRecDepth 100000 in
theorem mf_X2_readPapers : am_mf mX2_readPapers 2 := ⟨am_mem 817 rfl (by decide +kernel), am_mem 114 (by decide +kernel) (by decide +kernel), by decide +kernel, by decide, by decide +kernel⟩
theorem mv_X2_readPapers : am_mv mX2_readPapers 2 := ⟨am_mem 816 (by decide +kernel) (by decide +kernel), am_mem 22 (by decide +kernel) (by decide +kernel), by decide, _, _, rfl⟩
set_option maxRecDepth 100000 in
theorem mf_X3_addRule : am_mf mX3_addRule 3 := ⟨am_mem 690 rfl (by decide +kernel), am_mem 118 (by decide +kernel) (by decide +kernel), by decide +kernel, by decide, by decide +kernel⟩
theorem mv_X3_addRule : am_mv mX3_addRule 3 := ⟨am_mem 688 (by decide +kernel) (by decide +kernel), am_mem 689 (by decide +kernel) (by decide +kernel), by decide, _, _, rfl⟩
set_option maxRecDepth 100000 in
theorem mf_X3_clear : am_mf mX3_clear 0 := ⟨am_mem 494 rfl (by decide +kernel), am_mem 118 (by decide +kernel) (by decide +kernel), by decide +kernel, by decide, by decide +kernel⟩
theorem mv_X3_clear : am_mv mX3_clear 3 := ⟨am_mem 492 (by decide +kernel) (by decide +kernel), am_mem 493 (by decide +kernel) (by decide +kernel), by decide, _, _, rfl⟩
set_option maxRecDepth 100000 in
theorem mf_X3_emit : am_mf mX3_emit 1 := ⟨am_mem 534 rfl (by decide +kernel), am_mem 118 (by decide +kernel) (by decide +kernel), by decide +kernel, by decide, by decide +kernel⟩
theorem mv_X3_emit : am_mv mX3_emit 3 := ⟨am_mem 532 (by decide +kernel) (by decide +kernel), am_mem 533 (by decide +kernel) (by decide +kernel), by decide, _, _, rfl⟩
set_option maxRecDepth 100000 in
theorem mf_X3_emitJump : am_mf mX3_emitJump 1 := ⟨am_mem 681 rfl (by decide +kernel), am_mem 118 (by decide +kernel) (by decide +kernel), by decide +kernel, by decide, by decide +kernel⟩
theorem mv_X3_emitJump : am_mv mX3_emitJump 3 := ⟨am_mem 679 (by decide +kernel) (by decide +kernel), am_mem 680 (by decide +kernel) (by decide +kernel), by decide, _, _, rfl⟩
set_option maxRecDepth 100000 in
theorem mf_X3_emitPair : am_mf mX3_emitPair 2 := ⟨am_mem 530 rfl (by decide +kernel), am_mem 118 (by decide +kernel) (by decide +kernel), by decide +kernel, by decide, by decide +kernel⟩
theorem mv_X3_emitPair : am_mv mX3_emitPair 3 := ⟨am_mem 528 (by decide +kernel) (by decide +kernel), am_mem 529 (by decide +kernel) (by decide +kernel), by decide, _, _, rfl⟩
set_option maxRecDepth 100000 in
theorem mf_X3_fact : am_mf mX3_fact 1 := ⟨am_mem 792 rfl (by decide +kernel), am_mem 118 (by decide +kernel) (by decide +kernel), by decide +kernel, by decide, by decide +kernel⟩
theorem mv_X3_fact : am_mv mX3_fact 3 := ⟨am_mem 791 (by decide +kernel) (by decide +kernel), am_mem 19 (by decide +kernel) (by decide +kernel), by decide, _, _, rfl⟩
set_option maxRecDepth 100000 in
theorem mf_X3_isDivision : am_mf mX3_isDivision 1 := ⟨am_mem 795 rfl (by decide +kernel), am_mem 118 (by decide +kernel) (by decide +kernel), by decide +kernel, by decide, by decide +kernel⟩
theorem ms_X3_isDivision : Cond.static yX3_isDivision ∈ lw_g := am_mem 794 (by decide +kernel) (by decide +kernel)
set_option maxRecDepth 100000 in
theorem mf_X3_joined : am_mf mX3_joined 3 := ⟨am_mem 798 rfl (by decide +kernel), am_mem 118 (by decide +kernel) (by decide +kernel), by decide +kernel, by decide, by decide +kernel⟩
theorem ms_X3_joined : Cond.static yX3_joined ∈ lw_g := am_mem 797 (by decide +kernel) (by decide +kernel)
set_option maxRecDepth 100000 in
theorem mf_X3_land : am_mf mX3_land 1 := ⟨am_mem 686 rfl (by decide +kernel), am_mem 118 (by decide +kernel) (by decide +kernel), by decide +kernel, by decide, by decide +kernel⟩
theorem mv_X3_land : am_mv mX3_land 3 := ⟨am_mem 684 (by decide +kernel) (by decide +kernel), am_mem 685 (by decide +kernel) (by decide +kernel), by decide, _, _, rfl⟩
set_option maxRecDepth 100000 in
theorem mf_X3_run : am_mf mX3_run 2 := ⟨am_mem 788 rfl (by decide +kernel), am_mem 118 (by decide +kernel) (by decide +kernel), by decide +kernel, by decide, by decide +kernel⟩
theorem mv_X3_run : am_mv mX3_run 3 := ⟨am_mem 787 (by decide +kernel) (by decide +kernel), am_mem 18 (by decide +kernel) (by decide +kernel), by decide, _, _, rfl⟩
set_option maxRecDepth 100000 in
theorem mf_X3_tellFacts : am_mf mX3_tellFacts 4 := ⟨am_mem 782 rfl (by decide +kernel), am_mem 118 (by decide +kernel) (by decide +kernel), by decide +kernel, by decide, by decide +kernel⟩
theorem mv_X3_tellFacts : am_mv mX3_tellFacts 3 := ⟨am_mem 781 (by decide +kernel) (by decide +kernel), am_mem 17 (by decide +kernel) (by decide +kernel), by decide, _, _, rfl⟩
set_option maxRecDepth 100000 in
theorem mf_X3_valueOf : am_mf mX3_valueOf 5 := ⟨am_mem 778 rfl (by decide +kernel), am_mem 118 (by decide +kernel) (by decide +kernel), by decide +kernel, by decide, by decide +kernel⟩
theorem mv_X3_valueOf : am_mv mX3_valueOf 3 := ⟨am_mem 776 (by decide +kernel) (by decide +kernel), am_mem 777 (by decide +kernel) (by decide +kernel), by decide, _, _, rfl⟩
set_option maxRecDepth 100000 in
theorem mf_X4_init : am_mf mX4_init 2 := ⟨am_mem 378 rfl (by decide +kernel), am_mem 119 (by decide +kernel) (by decide +kernel), by decide +kernel, by decide, by decide +kernel⟩
set_option maxRecDepth 100000 in
theorem mf_X4_isComparison : am_mf mX4_isComparison 1 := ⟨am_mem 677 rfl (by decide +kernel), am_mem 119 (by decide +kernel) (by decide +kernel), by decide +kernel, by decide, by decide +kernel⟩
theorem ms_X4_isComparison : Cond.static yX4_isComparison ∈ lw_g := am_mem 676 (by decide +kernel) (by decide +kernel)
set_option maxRecDepth 100000 in
theorem mf_X4_isSumSign : am_mf mX4_isSumSign 1 := ⟨am_mem 662 rfl (by decide +kernel), am_mem 119 (by decide +kernel) (by decide +kernel), by decide +kernel, by decide, by decide +kernel⟩
theorem ms_X4_isSumSign : Cond.static yX4_isSumSign ∈ lw_g := am_mem 661 (by decide +kernel) (by decide +kernel)
set_option maxRecDepth 100000 in
theorem mf_X4_isTermSign : am_mf mX4_isTermSign 1 := ⟨am_mem 658 rfl (by decide +kernel), am_mem 119 (by decide +kernel) (by decide +kernel), by decide +kernel, by decide, by decide +kernel⟩
theorem ms_X4_isTermSign : Cond.static yX4_isTermSign ∈ lw_g := am_mem 657 (by decide +kernel) (by decide +kernel)
set_option maxRecDepth 100000 in
theorem mf_X4_opens : am_mf mX4_opens 1 := ⟨am_mem 550 rfl (by decide +kernel), am_mem 119 (by decide +kernel) (by decide +kernel), by decide +kernel, by decide, by decide +kernel⟩
theorem mv_X4_opens : am_mv mX4_opens 4 := ⟨am_mem 549 (by decide +kernel) (by decide +kernel), am_mem 5 (by decide +kernel) (by decide +kernel), by decide, _, _, rfl⟩
set_option maxRecDepth 100000 in
theorem mf_X4_read : am_mf mX4_read 2 := ⟨am_mem 490 rfl (by decide +kernel), am_mem 119 (by decide +kernel) (by decide +kernel), by decide +kernel, by decide, by decide +kernel⟩
theorem mv_X4_read : am_mv mX4_read 4 := ⟨am_mem 488 (by decide +kernel) (by decide +kernel), am_mem 489 (by decide +kernel) (by decide +kernel), by decide, _, _, rfl⟩
set_option maxRecDepth 100000 in
theorem mf_X4_readChoice : am_mf mX4_readChoice 1 := ⟨am_mem 666 rfl (by decide +kernel), am_mem 119 (by decide +kernel) (by decide +kernel), by decide +kernel, by decide, by decide +kernel⟩
theorem mv_X4_readChoice : am_mv mX4_readChoice 4 := ⟨am_mem 665 (by decide +kernel) (by decide +kernel), am_mem 8 (by decide +kernel) (by decide +kernel), by decide, _, _, rfl⟩
set_option maxRecDepth 100000 in
theorem mf_X4_readFact : am_mf mX4_readFact 1 := ⟨am_mem 568 rfl (by decide +kernel), am_mem 119 (by decide +kernel) (by decide +kernel), by decide +kernel, by decide, by decide +kernel⟩
theorem mv_X4_readFact : am_mv mX4_readFact 4 := ⟨am_mem 567 (by decide +kernel) (by decide +kernel), am_mem 7 (by decide +kernel) (by decide +kernel), by decide, _, _, rfl⟩
set_option maxRecDepth 100000 in
theorem mf_X4_readFactor : am_mf mX4_readFactor 1 := ⟨am_mem 546 rfl (by decide +kernel), am_mem 119 (by decide +kernel) (by decide +kernel), by decide +kernel, by decide, by decide +kernel⟩
theorem mv_X4_readFactor : am_mv mX4_readFactor 4 := ⟨am_mem 545 (by decide +kernel) (by decide +kernel), am_mem 4 (by decide +kernel) (by decide +kernel), by decide, _, _, rfl⟩
set_option maxRecDepth 100000 in
theorem mf_X4_readNumber : am_mf mX4_readNumber 0 := ⟨am_mem 564 rfl (by decide +kernel), am_mem 119 (by decide +kernel) (by decide +kernel), by decide +kernel, by decide, by decide +kernel⟩
theorem mv_X4_readNumber : am_mv mX4_readNumber 4 := ⟨am_mem 563 (by decide +kernel) (by decide +kernel), am_mem 6 (by decide +kernel) (by decide +kernel), by decide, _, _, rfl⟩
set_option maxRecDepth 100000 in
theorem mf_X4_readPart : am_mf mX4_readPart 1 := ⟨am_mem 670 rfl (by decide +kernel), am_mem 119 (by decide +kernel) (by decide +kernel), by decide +kernel, by decide, by decide +kernel⟩
theorem mv_X4_readPart : am_mv mX4_readPart 4 := ⟨am_mem 669 (by decide +kernel) (by decide +kernel), am_mem 9 (by decide +kernel) (by decide +kernel), by decide, _, _, rfl⟩
set_option maxRecDepth 100000 in
theorem mf_X4_readRule : am_mf mX4_readRule 1 := ⟨am_mem 506 rfl (by decide +kernel), am_mem 119 (by decide +kernel) (by decide +kernel), by decide +kernel, by decide, by decide +kernel⟩
theorem mv_X4_readRule : am_mv mX4_readRule 4 := ⟨am_mem 505 (by decide +kernel) (by decide +kernel), am_mem 1 (by decide +kernel) (by decide +kernel), by decide, _, _, rfl⟩
set_option maxRecDepth 100000 in
theorem mf_X4_readSum : am_mf mX4_readSum 1 := ⟨am_mem 538 rfl (by decide +kernel), am_mem 119 (by decide +kernel) (by decide +kernel), by decide +kernel, by decide, by decide +kernel⟩
theorem mv_X4_readSum : am_mv mX4_readSum 4 := ⟨am_mem 537 (by decide +kernel) (by decide +kernel), am_mem 2 (by decide +kernel) (by decide +kernel), by decide, _, _, rfl⟩
set_option maxRecDepth 100000 in
theorem mf_X4_readTerm : am_mf mX4_readTerm 1 := ⟨am_mem 542 rfl (by decide +kernel), am_mem 119 (by decide +kernel) (by decide +kernel), by decide +kernel, by decide, by decide +kernel⟩
theorem mv_X4_readTerm : am_mv mX4_readTerm 4 := ⟨am_mem 541 (by decide +kernel) (by decide +kernel), am_mem 3 (by decide +kernel) (by decide +kernel), by decide, _, _, rfl⟩
set_option maxRecDepth 100000 in
theorem mf_X4_readTest : am_mf mX4_readTest 1 := ⟨am_mem 674 rfl (by decide +kernel), am_mem 119 (by decide +kernel) (by decide +kernel), by decide +kernel, by decide, by decide +kernel⟩
theorem mv_X4_readTest : am_mv mX4_readTest 4 := ⟨am_mem 673 (by decide +kernel) (by decide +kernel), am_mem 10 (by decide +kernel) (by decide +kernel), by decide, _, _, rfl⟩
set_option maxRecDepth 100000 in
theorem mf_X5_canMove : am_mf mX5_canMove 2 := ⟨am_mem 994 rfl (by decide +kernel), am_mem 116 (by decide +kernel) (by decide +kernel), by decide +kernel, by decide, by decide +kernel⟩
theorem mv_X5_canMove : am_mv mX5_canMove 5 := ⟨am_mem 993 (by decide +kernel) (by decide +kernel), am_mem 37 (by decide +kernel) (by decide +kernel), by decide, _, _, rfl⟩
set_option maxRecDepth 100000 in
theorem mf_X5_init : am_mf mX5_init 1 := ⟨am_mem 253 rfl (by decide +kernel), am_mem 116 (by decide +kernel) (by decide +kernel), by decide +kernel, by decide, by decide +kernel⟩
set_option maxRecDepth 100000 in
theorem mf_X5_isSound : am_mf mX5_isSound 1 := ⟨am_mem 984 rfl (by decide +kernel), am_mem 116 (by decide +kernel) (by decide +kernel), by decide +kernel, by decide, by decide +kernel⟩
theorem mv_X5_isSound : am_mv mX5_isSound 5 := ⟨am_mem 983 (by decide +kernel) (by decide +kernel), am_mem 35 (by decide +kernel) (by decide +kernel), by decide, _, _, rfl⟩
set_option maxRecDepth 100000 in
theorem mf_X5_reach : am_mf mX5_reach 2 := ⟨am_mem 998 rfl (by decide +kernel), am_mem 116 (by decide +kernel) (by decide +kernel), by decide +kernel, by decide, by decide +kernel⟩
theorem mv_X5_reach : am_mv mX5_reach 5 := ⟨am_mem 997 (by decide +kernel) (by decide +kernel), am_mem 38 (by decide +kernel) (by decide +kernel), by decide, _, _, rfl⟩
set_option maxRecDepth 100000 in
theorem mf_X5_solve : am_mf mX5_solve 3 := ⟨am_mem 980 rfl (by decide +kernel), am_mem 116 (by decide +kernel) (by decide +kernel), by decide +kernel, by decide, by decide +kernel⟩
theorem mv_X5_solve : am_mv mX5_solve 5 := ⟨am_mem 978 (by decide +kernel) (by decide +kernel), am_mem 979 (by decide +kernel) (by decide +kernel), by decide, _, _, rfl⟩
set_option maxRecDepth 100000 in
theorem mf_X5_walk : am_mf mX5_walk 2 := ⟨am_mem 989 rfl (by decide +kernel), am_mem 116 (by decide +kernel) (by decide +kernel), by decide +kernel, by decide, by decide +kernel⟩
theorem mv_X5_walk : am_mv mX5_walk 5 := ⟨am_mem 988 (by decide +kernel) (by decide +kernel), am_mem 36 (by decide +kernel) (by decide +kernel), by decide, _, _, rfl⟩
set_option maxRecDepth 100000 in
theorem mf_X6_balancePlace : am_mf mX6_balancePlace 1 := ⟨am_mem 1028 rfl (by decide +kernel), am_mem 115 (by decide +kernel) (by decide +kernel), by decide +kernel, by decide, by decide +kernel⟩
theorem mv_X6_balancePlace : am_mv mX6_balancePlace 6 := ⟨am_mem 1026 (by decide +kernel) (by decide +kernel), am_mem 1027 (by decide +kernel) (by decide +kernel), by decide, _, _, rfl⟩
set_option maxRecDepth 100000 in
theorem mf_X6_fewestDrawers : am_mf mX6_fewestDrawers 1 := ⟨am_mem 866 rfl (by decide +kernel), am_mem 115 (by decide +kernel) (by decide +kernel), by decide +kernel, by decide, by decide +kernel⟩
theorem mv_X6_fewestDrawers : am_mv mX6_fewestDrawers 6 := ⟨am_mem 864 (by decide +kernel) (by decide +kernel), am_mem 865 (by decide +kernel) (by decide +kernel), by decide, _, _, rfl⟩
set_option maxRecDepth 100000 in
theorem mf_X6_goesUnder : am_mf mX6_goesUnder 2 := ⟨am_mem 1010 rfl (by decide +kernel), am_mem 115 (by decide +kernel) (by decide +kernel), by decide +kernel, by decide, by decide +kernel⟩
theorem mv_X6_goesUnder : am_mv mX6_goesUnder 6 := ⟨am_mem 1009 (by decide +kernel) (by decide +kernel), am_mem 39 (by decide +kernel) (by decide +kernel), by decide, _, _, rfl⟩
set_option maxRecDepth 100000 in
theorem mf_X6_heardToTheEnd : am_mf mX6_heardToTheEnd 2 := ⟨am_mem 1093 rfl (by decide +kernel), am_mem 115 (by decide +kernel) (by decide +kernel), by decide +kernel, by decide, by decide +kernel⟩
theorem mv_X6_heardToTheEnd : am_mv mX6_heardToTheEnd 6 := ⟨am_mem 1091 (by decide +kernel) (by decide +kernel), am_mem 1092 (by decide +kernel) (by decide +kernel), by decide, _, _, rfl⟩
set_option maxRecDepth 100000 in
theorem mf_X6_heirInLine : am_mf mX6_heirInLine 2 := ⟨am_mem 1073 rfl (by decide +kernel), am_mem 115 (by decide +kernel) (by decide +kernel), by decide +kernel, by decide, by decide +kernel⟩
theorem mv_X6_heirInLine : am_mv mX6_heirInLine 6 := ⟨am_mem 1071 (by decide +kernel) (by decide +kernel), am_mem 1072 (by decide +kernel) (by decide +kernel), by decide, _, _, rfl⟩
set_option maxRecDepth 100000 in
theorem mf_X6_holesFilled : am_mf mX6_holesFilled 3 := ⟨am_mem 1036 rfl (by decide +kernel), am_mem 115 (by decide +kernel) (by decide +kernel), by decide +kernel, by decide, by decide +kernel⟩
theorem mv_X6_holesFilled : am_mv mX6_holesFilled 6 := ⟨am_mem 1034 (by decide +kernel) (by decide +kernel), am_mem 1035 (by decide +kernel) (by decide +kernel), by decide, _, _, rfl⟩
set_option maxRecDepth 100000 in
theorem mf_X6_init : am_mf mX6_init 1 := ⟨am_mem 228 rfl (by decide +kernel), am_mem 115 (by decide +kernel) (by decide +kernel), by decide +kernel, by decide, by decide +kernel⟩
set_option maxRecDepth 100000 in
theorem mf_X6_kingdoms : am_mf mX6_kingdoms 3 := ⟨am_mem 1061 rfl (by decide +kernel), am_mem 115 (by decide +kernel) (by decide +kernel), by decide +kernel, by decide, by decide +kernel⟩
theorem mv_X6_kingdoms : am_mv mX6_kingdoms 6 := ⟨am_mem 1059 (by decide +kernel) (by decide +kernel), am_mem 1060 (by decide +kernel) (by decide +kernel), by decide, _, _, rfl⟩
set_option maxRecDepth 100000 in
theorem mf_X6_largestKingdom : am_mf mX6_largestKingdom 1 := ⟨am_mem 1065 rfl (by decide +kernel), am_mem 115 (by decide +kernel) (by decide +kernel), by decide +kernel, by decide, by decide +kernel⟩
theorem mv_X6_largestKingdom : am_mv mX6_largestKingdom 6 := ⟨am_mem 1064 (by decide +kernel) (by decide +kernel), am_mem 42 (by decide +kernel) (by decide +kernel), by decide, _, _, rfl⟩
set_option maxRecDepth 100000 in
theorem mf_X6_layLine : am_mf mX6_layLine 1 := ⟨am_mem 1077 rfl (by decide +kernel), am_mem 115 (by decide +kernel) (by decide +kernel), by decide +kernel, by decide, by decide +kernel⟩
theorem mv_X6_layLine : am_mv mX6_layLine 6 := ⟨am_mem 1076 (by decide +kernel) (by decide +kernel), am_mem 43 (by decide +kernel) (by decide +kernel), by decide, _, _, rfl⟩
set_option maxRecDepth 100000 in
theorem mf_X6_layOne : am_mf mX6_layOne 3 := ⟨am_mem 1052 rfl (by decide +kernel), am_mem 115 (by decide +kernel) (by decide +kernel), by decide +kernel, by decide, by decide +kernel⟩
theorem mv_X6_layOne : am_mv mX6_layOne 6 := ⟨am_mem 1051 (by decide +kernel) (by decide +kernel), am_mem 41 (by decide +kernel) (by decide +kernel), by decide, _, _, rfl⟩
set_option maxRecDepth 100000 in
theorem mf_X6_longestRising : am_mf mX6_longestRising 1 := ⟨am_mem 1020 rfl (by decide +kernel), am_mem 115 (by decide +kernel) (by decide +kernel), by decide +kernel, by decide, by decide +kernel⟩
theorem mv_X6_longestRising : am_mv mX6_longestRising 6 := ⟨am_mem 1018 (by decide +kernel) (by decide +kernel), am_mem 1019 (by decide +kernel) (by decide +kernel), by decide, _, _, rfl⟩
set_option maxRecDepth 100000 in
theorem mf_X6_longestRound : am_mf mX6_longestRound 1 := ⟨am_mem 1040 rfl (by decide +kernel), am_mem 115 (by decide +kernel) (by decide +kernel), by decide +kernel, by decide, by decide +kernel⟩
theorem mv_X6_longestRound : am_mv mX6_longestRound 6 := ⟨am_mem 1039 (by decide +kernel) (by decide +kernel), am_mem 40 (by decide +kernel) (by decide +kernel), by decide, _, _, rfl⟩
set_option maxRecDepth 100000 in
theorem mf_X6_mostNested : am_mf mX6_mostNested 1 := ⟨am_mem 1006 rfl (by decide +kernel), am_mem 115 (by decide +kernel) (by decide +kernel), by decide +kernel, by decide, by decide +kernel⟩
theorem mv_X6_mostNested : am_mv mX6_mostNested 6 := ⟨am_mem 1004 (by decide +kernel) (by decide +kernel), am_mem 1005 (by decide +kernel) (by decide +kernel), by decide, _, _, rfl⟩
set_option maxRecDepth 100000 in
theorem mf_X6_packOne : am_mf mX6_packOne 4 := ⟨am_mem 876 rfl (by decide +kernel), am_mem 115 (by decide +kernel) (by decide +kernel), by decide +kernel, by decide, by decide +kernel⟩
theorem mv_X6_packOne : am_mv mX6_packOne 6 := ⟨am_mem 875 (by decide +kernel) (by decide +kernel), am_mem 25 (by decide +kernel) (by decide +kernel), by decide, _, _, rfl⟩
set_option maxRecDepth 100000 in
theorem mf_X6_sortRooms : am_mf mX6_sortRooms 1 := ⟨am_mem 870 rfl (by decide +kernel), am_mem 115 (by decide +kernel) (by decide +kernel), by decide +kernel, by decide, by decide +kernel⟩
theorem mv_X6_sortRooms : am_mv mX6_sortRooms 6 := ⟨am_mem 869 (by decide +kernel) (by decide +kernel), am_mem 24 (by decide +kernel) (by decide +kernel), by decide, _, _, rfl⟩
set_option maxRecDepth 100000 in
theorem mf_X6_strokes : am_mf mX6_strokes 2 := ⟨am_mem 1100 rfl (by decide +kernel), am_mem 115 (by decide +kernel) (by decide +kernel), by decide +kernel, by decide, by decide +kernel⟩
theorem ms_X6_strokes : Cond.static yX6_strokes ∈ lw_g := am_mem 1099 (by decide +kernel) (by decide +kernel)
set_option maxRecDepth 100000 in
theorem mf_X6_waitOf : am_mf mX6_waitOf 2 := ⟨am_mem 1089 rfl (by decide +kernel), am_mem 115 (by decide +kernel) (by decide +kernel), by decide +kernel, by decide, by decide +kernel⟩
theorem mv_X6_waitOf : am_mv mX6_waitOf 6 := ⟨am_mem 1088 (by decide +kernel) (by decide +kernel), am_mem 44 (by decide +kernel) (by decide +kernel), by decide, _, _, rfl⟩
set_option maxRecDepth 100000 in
theorem mf_X6_waitOfAll : am_mf mX6_waitOfAll 1 := ⟨am_mem 1085 rfl (by decide +kernel), am_mem 115 (by decide +kernel) (by decide +kernel), by decide +kernel, by decide, by decide +kernel⟩
theorem mv_X6_waitOfAll : am_mv mX6_waitOfAll 6 := ⟨am_mem 1083 (by decide +kernel) (by decide +kernel), am_mem 1084 (by decide +kernel) (by decide +kernel), by decide, _, _, rfl⟩
set_option maxRecDepth 100000 in
theorem mf_X6_waysToPlank : am_mf mX6_waysToPlank 2 := ⟨am_mem 1048 rfl (by decide +kernel), am_mem 115 (by decide +kernel) (by decide +kernel), by decide +kernel, by decide, by decide +kernel⟩
theorem mv_X6_waysToPlank : am_mv mX6_waysToPlank 6 := ⟨am_mem 1046 (by decide +kernel) (by decide +kernel), am_mem 1047 (by decide +kernel) (by decide +kernel), by decide, _, _, rfl⟩
set_option maxRecDepth 100000 in
theorem mf_X7_expect : am_mf mX7_expect 1 := ⟨am_mem 554 rfl (by decide +kernel), am_mem 111 (by decide +kernel) (by decide +kernel), by decide +kernel, by decide, by decide +kernel⟩
theorem mv_X7_expect : am_mv mX7_expect 7 := ⟨am_mem 552 (by decide +kernel) (by decide +kernel), am_mem 553 (by decide +kernel) (by decide +kernel), by decide, _, _, rfl⟩
set_option maxRecDepth 100000 in
theorem mf_X7_fail : am_mf mX7_fail 2 := ⟨am_mem 522 rfl (by decide +kernel), am_mem 111 (by decide +kernel) (by decide +kernel), by decide +kernel, by decide, by decide +kernel⟩
theorem mv_X7_fail : am_mv mX7_fail 7 := ⟨am_mem 520 (by decide +kernel) (by decide +kernel), am_mem 521 (by decide +kernel) (by decide +kernel), by decide, _, _, rfl⟩
set_option maxRecDepth 100000 in
theorem mf_X7_failHere : am_mf mX7_failHere 1 := ⟨am_mem 518 rfl (by decide +kernel), am_mem 111 (by decide +kernel) (by decide +kernel), by decide +kernel, by decide, by decide +kernel⟩
theorem mv_X7_failHere : am_mv mX7_failHere 7 := ⟨am_mem 516 (by decide +kernel) (by decide +kernel), am_mem 517 (by decide +kernel) (by decide +kernel), by decide, _, _, rfl⟩
set_option maxRecDepth 100000 in
theorem mf_X7_failed : am_mf mX7_failed 0 := ⟨am_mem 502 rfl (by decide +kernel), am_mem 111 (by decide +kernel) (by decide +kernel), by decide +kernel, by decide, by decide +kernel⟩
theorem mv_X7_failed : am_mv mX7_failed 7 := ⟨am_mem 500 (by decide +kernel) (by decide +kernel), am_mem 501 (by decide +kernel) (by decide +kernel), by decide, _, _, rfl⟩
set_option maxRecDepth 100000 in
theorem mf_X7_init : am_mf mX7_init 1 := ⟨am_mem 156 rfl (by decide +kernel), am_mem 111 (by decide +kernel) (by decide +kernel), by decide +kernel, by decide, by decide +kernel⟩
set_option maxRecDepth 100000 in
theorem mf_X7_isDigit : am_mf mX7_isDigit 1 := ⟨am_mem 560 rfl (by decide +kernel), am_mem 111 (by decide +kernel) (by decide +kernel), by decide +kernel, by decide, by decide +kernel⟩
theorem ms_X7_isDigit : Cond.static yX7_isDigit ∈ lw_g := am_mem 559 (by decide +kernel) (by decide +kernel)
set_option maxRecDepth 100000 in
theorem mf_X7_next : am_mf mX7_next 0 := ⟨am_mem 526 rfl (by decide +kernel), am_mem 111 (by decide +kernel) (by decide +kernel), by decide +kernel, by decide, by decide +kernel⟩
theorem mv_X7_next : am_mv mX7_next 7 := ⟨am_mem 524 (by decide +kernel) (by decide +kernel), am_mem 525 (by decide +kernel) (by decide +kernel), by decide, _, _, rfl⟩
set_option maxRecDepth 100000 in
theorem mf_X7_peek : am_mf mX7_peek 0 := ⟨am_mem 510 rfl (by decide +kernel), am_mem 111 (by decide +kernel) (by decide +kernel), by decide +kernel, by decide, by decide +kernel⟩
theorem mv_X7_peek : am_mv mX7_peek 7 := ⟨am_mem 508 (by decide +kernel) (by decide +kernel), am_mem 509 (by decide +kernel) (by decide +kernel), by decide, _, _, rfl⟩
set_option maxRecDepth 100000 in
theorem mf_X7_start : am_mf mX7_start 1 := ⟨am_mem 498 rfl (by decide +kernel), am_mem 111 (by decide +kernel) (by decide +kernel), by decide +kernel, by decide, by decide +kernel⟩
theorem mv_X7_start : am_mv mX7_start 7 := ⟨am_mem 496 (by decide +kernel) (by decide +kernel), am_mem 497 (by decide +kernel) (by decide +kernel), by decide, _, _, rfl⟩
set_option maxRecDepth 100000 in
theorem mf_X8_add : am_mf mX8_add 2 := ⟨am_mem 935 rfl (by decide +kernel), am_mem 113 (by decide +kernel) (by decide +kernel), by decide +kernel, by decide, by decide +kernel⟩
theorem mv_X8_add : am_mv mX8_add 8 := ⟨am_mem 934 (by decide +kernel) (by decide +kernel), am_mem 28 (by decide +kernel) (by decide +kernel), by decide, _, _, rfl⟩
set_option maxRecDepth 100000 in
theorem mf_X8_bestShift : am_mf mX8_bestShift 0 := ⟨am_mem 956 rfl (by decide +kernel), am_mem 113 (by decide +kernel) (by decide +kernel), by decide +kernel, by decide, by decide +kernel⟩
theorem mv_X8_bestShift : am_mv mX8_bestShift 8 := ⟨am_mem 955 (by decide +kernel) (by decide +kernel), am_mem 31 (by decide +kernel) (by decide +kernel), by decide, _, _, rfl⟩
set_option maxRecDepth 100000 in
theorem mf_X8_init : am_mf mX8_init 1 := ⟨am_mem 190 rfl (by decide +kernel), am_mem 113 (by decide +kernel) (by decide +kernel), by decide +kernel, by decide, by decide +kernel⟩
set_option maxRecDepth 100000 in
theorem mf_X8_isSameFromBehind : am_mf mX8_isSameFromBehind 2 := ⟨am_mem 967 rfl (by decide +kernel), am_mem 113 (by decide +kernel) (by decide +kernel), by decide +kernel, by decide, by decide +kernel⟩
theorem mv_X8_isSameFromBehind : am_mv mX8_isSameFromBehind 8 := ⟨am_mem 966 (by decide +kernel) (by decide +kernel), am_mem 33 (by decide +kernel) (by decide +kernel), by decide, _, _, rfl⟩
set_option maxRecDepth 100000 in
theorem mf_X8_isVowel : am_mf mX8_isVowel 1 := ⟨am_mem 963 rfl (by decide +kernel), am_mem 113 (by decide +kernel) (by decide +kernel), by decide +kernel, by decide, by decide +kernel⟩
theorem ms_X8_isVowel : Cond.static yX8_isVowel ∈ lw_g := am_mem 962 (by decide +kernel) (by decide +kernel)
set_option maxRecDepth 100000 in
theorem mf_X8_longestSameFromBehind : am_mf mX8_longestSameFromBehind 0 := ⟨am_mem 971 rfl (by decide +kernel), am_mem 113 (by decide +kernel) (by decide +kernel), by decide +kernel, by decide, by decide +kernel⟩
theorem mv_X8_longestSameFromBehind : am_mv mX8_longestSameFromBehind 8 := ⟨am_mem 970 (by decide +kernel) (by decide +kernel), am_mem 34 (by decide +kernel) (by decide +kernel), by decide, _, _, rfl⟩
set_option maxRecDepth 100000 in
theorem mf_X8_mostOften : am_mf mX8_mostOften 0 := ⟨am_mem 951 rfl (by decide +kernel), am_mem 113 (by decide +kernel) (by decide +kernel), by decide +kernel, by decide, by decide +kernel⟩
theorem mv_X8_mostOften : am_mv mX8_mostOften 8 := ⟨am_mem 950 (by decide +kernel) (by decide +kernel), am_mem 30 (by decide +kernel) (by decide +kernel), by decide, _, _, rfl⟩
set_option maxRecDepth 100000 in
theorem mf_X8_read : am_mf mX8_read 1 := ⟨am_mem 919 rfl (by decide +kernel), am_mem 113 (by decide +kernel) (by decide +kernel), by decide +kernel, by decide, by decide +kernel⟩
theorem mv_X8_read : am_mv mX8_read 8 := ⟨am_mem 917 (by decide +kernel) (by decide +kernel), am_mem 918 (by decide +kernel) (by decide +kernel), by decide, _, _, rfl⟩
set_option maxRecDepth 100000 in
theorem mf_X8_readOne : am_mf mX8_readOne 1 := ⟨am_mem 928 rfl (by decide +kernel), am_mem 113 (by decide +kernel) (by decide +kernel), by decide +kernel, by decide, by decide +kernel⟩
theorem mv_X8_readOne : am_mv mX8_readOne 8 := ⟨am_mem 927 (by decide +kernel) (by decide +kernel), am_mem 27 (by decide +kernel) (by decide +kernel), by decide, _, _, rfl⟩
set_option maxRecDepth 100000 in
theorem mf_X8_readRow : am_mf mX8_readRow 1 := ⟨am_mem 924 rfl (by decide +kernel), am_mem 113 (by decide +kernel) (by decide +kernel), by decide +kernel, by decide, by decide +kernel⟩
theorem mv_X8_readRow : am_mv mX8_readRow 8 := ⟨am_mem 923 (by decide +kernel) (by decide +kernel), am_mem 26 (by decide +kernel) (by decide +kernel), by decide, _, _, rfl⟩
set_option maxRecDepth 100000 in
theorem mf_X8_repeat : am_mf mX8_repeat 3 := ⟨am_mem 942 rfl (by decide +kernel), am_mem 113 (by decide +kernel) (by decide +kernel), by decide +kernel, by decide, by decide +kernel⟩
theorem mv_X8_repeat : am_mv mX8_repeat 8 := ⟨am_mem 941 (by decide +kernel) (by decide +kernel), am_mem 29 (by decide +kernel) (by decide +kernel), by decide, _, _, rfl⟩
set_option maxRecDepth 100000 in
theorem mf_X8_told : am_mf mX8_told 1 := ⟨am_mem 947 rfl (by decide +kernel), am_mem 113 (by decide +kernel) (by decide +kernel), by decide +kernel, by decide, by decide +kernel⟩
theorem mv_X8_told : am_mv mX8_told 8 := ⟨am_mem 945 (by decide +kernel) (by decide +kernel), am_mem 946 (by decide +kernel) (by decide +kernel), by decide, _, _, rfl⟩
set_option maxRecDepth 100000 in
theorem mf_X8_vowelsShifted : am_mf mX8_vowelsShifted 1 := ⟨am_mem 960 rfl (by decide +kernel), am_mem 113 (by decide +kernel) (by decide +kernel), by decide +kernel, by decide, by decide +kernel⟩
theorem mv_X8_vowelsShifted : am_mv mX8_vowelsShifted 8 := ⟨am_mem 959 (by decide +kernel) (by decide +kernel), am_mem 32 (by decide +kernel) (by decide +kernel), by decide, _, _, rfl⟩
set_option maxRecDepth 100000 in
theorem mf_X9_append : am_mf mX9_append 1 := ⟨am_mem 475 rfl (by decide +kernel), am_mem 110 (by decide +kernel) (by decide +kernel), by decide +kernel, by decide, by decide +kernel⟩
theorem mv_X9_append : am_mv mX9_append 9 := ⟨am_mem 473 (by decide +kernel) (by decide +kernel), am_mem 474 (by decide +kernel) (by decide +kernel), by decide, _, _, rfl⟩
set_option maxRecDepth 100000 in
theorem mf_X9_at : am_mf mX9_at 1 := ⟨am_mem 514 rfl (by decide +kernel), am_mem 110 (by decide +kernel) (by decide +kernel), by decide +kernel, by decide, by decide +kernel⟩
theorem mv_X9_at : am_mv mX9_at 9 := ⟨am_mem 512 (by decide +kernel) (by decide +kernel), am_mem 513 (by decide +kernel) (by decide +kernel), by decide, _, _, rfl⟩
set_option maxRecDepth 100000 in
theorem mf_X9_clear : am_mf mX9_clear 0 := ⟨am_mem 694 rfl (by decide +kernel), am_mem 110 (by decide +kernel) (by decide +kernel), by decide +kernel, by decide, by decide +kernel⟩
theorem mv_X9_clear : am_mv mX9_clear 9 := ⟨am_mem 692 (by decide +kernel) (by decide +kernel), am_mem 693 (by decide +kernel) (by decide +kernel), by decide, _, _, rfl⟩
set_option maxRecDepth 100000 in
theorem mf_X9_hasSpaceForFive : am_mf mX9_hasSpaceForFive 0 := ⟨am_mem 471 rfl (by decide +kernel), am_mem 110 (by decide +kernel) (by decide +kernel), by decide +kernel, by decide, by decide +kernel⟩
theorem mv_X9_hasSpaceForFive : am_mv mX9_hasSpaceForFive 9 := ⟨am_mem 469 (by decide +kernel) (by decide +kernel), am_mem 470 (by decide +kernel) (by decide +kernel), by decide, _, _, rfl⟩
set_option maxRecDepth 100000 in
theorem mf_X9_holds : am_mf mX9_holds 1 := ⟨am_mem 486 rfl (by decide +kernel), am_mem 110 (by decide +kernel) (by decide +kernel), by decide +kernel, by decide, by decide +kernel⟩
theorem mv_X9_holds : am_mv mX9_holds 9 := ⟨am_mem 484 (by decide +kernel) (by decide +kernel), am_mem 485 (by decide +kernel) (by decide +kernel), by decide, _, _, rfl⟩
theorem kc_X10_262 : Jvm.Cond.constant RX10 262 65535 ∈ lw_g := am_mem 1105 (by decide +kernel) (by decide +kernel)
theorem kc_X0_93 : Jvm.Cond.constant RX0 93 65536 ∈ lw_g := am_mem 774 (by decide +kernel) (by decide +kernel)
theorem kc_X11_190 : Jvm.Cond.constant RX11 190 1048576 ∈ lw_g := am_mem 1409 (by decide +kernel) (by decide +kernel)
theorem kc_X11_285 : Jvm.Cond.constant RX11 285 65536 ∈ lw_g := am_mem 1496 (by decide +kernel) (by decide +kernel)
theorem kc_X11_342 : Jvm.Cond.constant RX11 342 1000000 ∈ lw_g := am_mem 1572 (by decide +kernel) (by decide +kernel)
theorem kc_X11_424 : Jvm.Cond.constant RX11 424 65535 ∈ lw_g := am_mem 1719 (by decide +kernel) (by decide +kernel)
theorem ac_native : Cond.native arraycopyName ∈ lw_g := am_mem 832 (by decide +kernel) (by decide +kernel)
theorem ac_static : Cond.static arraycopyName ∈ lw_g := am_mem 831 (by decide +kernel) (by decide +kernel)
theorem ac_init : Cond.initialized "java/lang/System" ∈ lw_g := am_mem 128 (by decide +kernel) (by decide +kernel)
theorem al_X0_52 : Cond.methodLink RX0 52 arraycopyName ∈ lw_g := am_mem 830 (by decide +kernel) (by decide +kernel)
theorem al_X6_87 : Cond.methodLink RX6 87 arraycopyName ∈ lw_g := am_mem 1053 (by decide +kernel) (by decide +kernel)
