section
variable {d : Nat} {Q : Option Value → zH → Prop} {lv l : zL} {st : zS} {h : zH} {x z : Int32} {c : Nat} {i j : Int64} {o0 o1 o2 o3 o4 o5 o6 o7 o8 o9 o10 o11 o12 : Option Value} {x0 x1 x2 x3 x4 y0 y1 y2 y3 : Int32} {c0 c1 c2 c3 c4 a0 a1 a2 a3 : Nat} {j0 j1 j2 k0 k1 : Int64}

theorem r300_16 : zR d 300 Q 16 lv st h = zR d 300 Q 17 lv (.int 0 :: st) h := q_in rfl rfl
theorem r300_17 : zR d 300 Q 17 (o0 :: o1 :: o2 :: o3 :: l) (.int x :: st) h = zR d 300 Q 18 (o0 :: o1 :: o2 :: some (.int x) :: l) st h := q_in rfl rfl
theorem r300_18 : zR d 300 Q 18 (o0 :: o1 :: o2 :: some (.int x) :: l) st h = zR d 300 Q 19 (o0 :: o1 :: o2 :: some (.int x) :: l) (.int x :: st) h := q_in rfl rfl
theorem r300_19 : zR d 300 Q 19 (some (.ref c) :: l) st h = zR d 300 Q 20 (some (.ref c) :: l) (.ref c :: st) h := q_in rfl rfl
theorem r300_20 : zR d 300 Q 20 lv (.ref c :: st) h = zan c h (fun w => zR d 300 Q 21 lv (.int w :: st) h) := q_alen rfl
theorem r300_21 : zR d 300 Q 21 lv st h = zR d 300 Q 23 lv (.int 6 :: st) h := q_in rfl rfl
theorem r300_23 : zR d 300 Q 23 lv (.int z :: .int x :: st) h = zR d 300 Q 24 lv (.int (x - z) :: st) h := q_in rfl rfl
theorem r300_24 : zR d 300 Q 24 lv (.int z :: .int x :: st) h = if x ≤ z then zR d 300 Q 27 lv st h else zR d 300 Q 1381 lv st h := q_if rfl rfl
theorem r300_27 : zR d 300 Q 27 (some (.ref c) :: l) st h = zR d 300 Q 28 (some (.ref c) :: l) (.ref c :: st) h := q_in rfl rfl
theorem r300_28 : zR d 300 Q 28 (o0 :: o1 :: o2 :: some (.int x) :: l) st h = zR d 300 Q 29 (o0 :: o1 :: o2 :: some (.int x) :: l) (.int x :: st) h := q_in rfl rfl
theorem r300_29 : zR d 300 Q 29 lv (.int x :: .ref c :: st) h = zal c x h (fun w => zR d 300 Q 30 lv (.int w :: st) h) := q_iald rfl
theorem r300_30 : zR d 300 Q 30 lv st h = zR d 300 Q 32 lv (.int 63 :: st) h := q_in rfl rfl
theorem r300_32 : zR d 300 Q 32 lv (.int z :: .int x :: st) h = zR d 300 Q 33 lv (.int (x &&& z) :: st) h := q_in rfl rfl
theorem r300_33 : zR d 300 Q 33 lv (.int x :: st) h = if x = 0 then zR d 300 Q 212 lv st h else if x = 1 then zR d 300 Q 255 lv st h else if x = 2 then zR d 300 Q 288 lv st h else if x = 3 then zR d 300 Q 321 lv st h else if x = 4 then zR d 300 Q 354 lv st h else if x = 5 then zR d 300 Q 397 lv st h else if x = 6 then zR d 300 Q 420 lv st h else if x = 7 then zR d 300 Q 453 lv st h else if x = 8 then zR d 300 Q 476 lv st h else if x = 9 then zR d 300 Q 489 lv st h else if x = 10 then zR d 300 Q 512 lv st h else if x = 11 then zR d 300 Q 535 lv st h else if x = 12 then zR d 300 Q 558 lv st h else if x = 13 then zR d 300 Q 581 lv st h else if x = 14 then zR d 300 Q 594 lv st h else if x = 15 then zR d 300 Q 617 lv st h else if x = 16 then zR d 300 Q 650 lv st h else if x = 17 then zR d 300 Q 683 lv st h else if x = 18 then zR d 300 Q 716 lv st h else if x = 19 then zR d 300 Q 749 lv st h else if x = 20 then zR d 300 Q 762 lv st h else if x = 21 then zR d 300 Q 795 lv st h else if x = 22 then zR d 300 Q 808 lv st h else if x = 23 then zR d 300 Q 851 lv st h else if x = 24 then zR d 300 Q 874 lv st h else if x = 25 then zR d 300 Q 887 lv st h else if x = 26 then zR d 300 Q 920 lv st h else if x = 27 then zR d 300 Q 943 lv st h else if x = 28 then zR d 300 Q 986 lv st h else if x = 29 then zR d 300 Q 1029 lv st h else if x = 30 then zR d 300 Q 1052 lv st h else if x = 31 then zR d 300 Q 1075 lv st h else if x = 32 then zR d 300 Q 1138 lv st h else if x = 33 then zR d 300 Q 1181 lv st h else if x = 34 then zR d 300 Q 1214 lv st h else if x = 35 then zR d 300 Q 1247 lv st h else if x = 36 then zR d 300 Q 1280 lv st h else if x = 37 then zR d 300 Q 1303 lv st h else if x = 38 then zR d 300 Q 1326 lv st h else if x = 39 then zR d 300 Q 1339 lv st h else if x = 40 then zR d 300 Q 1352 lv st h else zR d 300 Q 1375 lv st h := (q_in rfl rfl).trans (by simp only [zsw, zR_ite])
theorem r300_212 : zR d 300 Q 212 (o0 :: some (.ref c) :: l) st h = zR d 300 Q 213 (o0 :: some (.ref c) :: l) (.ref c :: st) h := q_in rfl rfl
theorem r300_213 : zR d 300 Q 213 (some (.ref c) :: l) st h = zR d 300 Q 214 (some (.ref c) :: l) (.ref c :: st) h := q_in rfl rfl
theorem r300_214 : zR d 300 Q 214 (o0 :: o1 :: o2 :: some (.int x) :: l) st h = zR d 300 Q 215 (o0 :: o1 :: o2 :: some (.int x) :: l) (.int x :: st) h := q_in rfl rfl
theorem r300_215 : zR d 300 Q 215 lv st h = zR d 300 Q 216 lv (.int 1 :: st) h := q_in rfl rfl
theorem r300_216 : zR d 300 Q 216 lv (.int z :: .int x :: st) h = zR d 300 Q 217 lv (.int (x + z) :: st) h := q_in rfl rfl
theorem r300_217 : zR d 300 Q 217 lv (.int x :: .ref c :: st) h = zal c x h (fun w => zR d 300 Q 218 lv (.int w :: st) h) := q_iald rfl
theorem r300_218 : zR d 300 Q 218 (some (.ref c) :: l) st h = zR d 300 Q 219 (some (.ref c) :: l) (.ref c :: st) h := q_in rfl rfl
theorem r300_219 : zR d 300 Q 219 (o0 :: o1 :: o2 :: some (.int x) :: l) st h = zR d 300 Q 220 (o0 :: o1 :: o2 :: some (.int x) :: l) (.int x :: st) h := q_in rfl rfl
theorem r300_220 : zR d 300 Q 220 lv st h = zR d 300 Q 221 lv (.int 2 :: st) h := q_in rfl rfl
theorem r300_221 : zR d 300 Q 221 lv (.int z :: .int x :: st) h = zR d 300 Q 222 lv (.int (x + z) :: st) h := q_in rfl rfl
theorem r300_222 : zR d 300 Q 222 lv (.int x :: .ref c :: st) h = zal c x h (fun w => zR d 300 Q 223 lv (.int w :: st) h) := q_iald rfl
theorem r300_223 : zR d 300 Q 223 (some (.ref c) :: l) st h = zR d 300 Q 224 (some (.ref c) :: l) (.ref c :: st) h := q_in rfl rfl
theorem r300_224 : zR d 300 Q 224 (o0 :: o1 :: o2 :: some (.int x) :: l) st h = zR d 300 Q 225 (o0 :: o1 :: o2 :: some (.int x) :: l) (.int x :: st) h := q_in rfl rfl
theorem r300_225 : zR d 300 Q 225 lv st h = zR d 300 Q 226 lv (.int 3 :: st) h := q_in rfl rfl
theorem r300_226 : zR d 300 Q 226 lv (.int z :: .int x :: st) h = zR d 300 Q 227 lv (.int (x + z) :: st) h := q_in rfl rfl
theorem r300_227 : zR d 300 Q 227 lv (.int x :: .ref c :: st) h = zal c x h (fun w => zR d 300 Q 228 lv (.int w :: st) h) := q_iald rfl
theorem r300_228 : zR d 300 Q 228 lv [.int x2, .int x1, .int x0, .ref 0] h = zM d 58 [.ref 0, .int x0, .int x1, .int x2] h (fun r h' => zR d 300 Q 231 lv (r.toList ++ []) h') := (q_clV rfl rfl (Nat.le_of_ble_eq_true rfl)).trans (zand_t ⟨rfl, Nat.le_of_ble_eq_true rfl⟩)
theorem r300_231 : zR d 300 Q 231 (o0 :: o1 :: some (.ref c) :: l) st h = zR d 300 Q 232 (o0 :: o1 :: some (.ref c) :: l) (.ref c :: st) h := q_in rfl rfl
theorem r300_232 : zR d 300 Q 232 (some (.ref c) :: l) st h = zR d 300 Q 233 (some (.ref c) :: l) (.ref c :: st) h := q_in rfl rfl
theorem r300_233 : zR d 300 Q 233 (o0 :: o1 :: o2 :: some (.int x) :: l) st h = zR d 300 Q 234 (o0 :: o1 :: o2 :: some (.int x) :: l) (.int x :: st) h := q_in rfl rfl
theorem r300_234 : zR d 300 Q 234 lv st h = zR d 300 Q 235 lv (.int 1 :: st) h := q_in rfl rfl
theorem r300_235 : zR d 300 Q 235 lv (.int z :: .int x :: st) h = zR d 300 Q 236 lv (.int (x + z) :: st) h := q_in rfl rfl
theorem r300_236 : zR d 300 Q 236 lv (.int x :: .ref c :: st) h = zal c x h (fun w => zR d 300 Q 237 lv (.int w :: st) h) := q_iald rfl
theorem r300_237 : zR d 300 Q 237 (some (.ref c) :: l) st h = zR d 300 Q 238 (some (.ref c) :: l) (.ref c :: st) h := q_in rfl rfl
theorem r300_238 : zR d 300 Q 238 (o0 :: o1 :: o2 :: some (.int x) :: l) st h = zR d 300 Q 239 (o0 :: o1 :: o2 :: some (.int x) :: l) (.int x :: st) h := q_in rfl rfl
theorem r300_239 : zR d 300 Q 239 lv st h = zR d 300 Q 240 lv (.int 2 :: st) h := q_in rfl rfl
theorem r300_240 : zR d 300 Q 240 lv (.int z :: .int x :: st) h = zR d 300 Q 241 lv (.int (x + z) :: st) h := q_in rfl rfl
theorem r300_241 : zR d 300 Q 241 lv (.int x :: .ref c :: st) h = zal c x h (fun w => zR d 300 Q 242 lv (.int w :: st) h) := q_iald rfl
theorem r300_242 : zR d 300 Q 242 (some (.ref c) :: l) st h = zR d 300 Q 243 (some (.ref c) :: l) (.ref c :: st) h := q_in rfl rfl
theorem r300_243 : zR d 300 Q 243 (o0 :: o1 :: o2 :: some (.int x) :: l) st h = zR d 300 Q 244 (o0 :: o1 :: o2 :: some (.int x) :: l) (.int x :: st) h := q_in rfl rfl
theorem r300_244 : zR d 300 Q 244 lv st h = zR d 300 Q 245 lv (.int 3 :: st) h := q_in rfl rfl
theorem r300_245 : zR d 300 Q 245 lv (.int z :: .int x :: st) h = zR d 300 Q 246 lv (.int (x + z) :: st) h := q_in rfl rfl
theorem r300_246 : zR d 300 Q 246 lv (.int x :: .ref c :: st) h = zal c x h (fun w => zR d 300 Q 247 lv (.int w :: st) h) := q_iald rfl
theorem r300_247 : zR d 300 Q 247 lv [.int x2, .int x1, .int x0, .ref 60, .int y0] h = zM d 119 [.ref 60, .int x0, .int x1, .int x2] h (fun r h' => zR d 300 Q 250 lv (r.toList ++ [.int y0]) h') := (q_clV rfl rfl (Nat.le_of_ble_eq_true rfl)).trans (zand_t ⟨rfl, Nat.le_of_ble_eq_true rfl⟩)
theorem r300_250 : zR d 300 Q 250 lv (.int z :: .int x :: st) h = if x = z then zR d 300 Q 1375 lv st h else zR d 300 Q 253 lv st h := q_if rfl rfl
theorem r300_253 : zR d 300 Q 253 lv st h = zR d 300 Q 254 lv (.int 0 :: st) h := q_in rfl rfl
theorem r300_254f : zR d 300 Q 254 lv [.int 0] h = Q (some (.int 0)) h := q_retz rfl rfl (Or.inr (Or.inl rfl))
theorem r300_254t : zR d 300 Q 254 lv [.int 1] h = Q (some (.int 1)) h := q_retz rfl rfl (Or.inr (Or.inr rfl))
theorem r300_255 : zR d 300 Q 255 (o0 :: some (.ref c) :: l) st h = zR d 300 Q 256 (o0 :: some (.ref c) :: l) (.ref c :: st) h := q_in rfl rfl
theorem r300_256 : zR d 300 Q 256 (some (.ref c) :: l) st h = zR d 300 Q 257 (some (.ref c) :: l) (.ref c :: st) h := q_in rfl rfl
theorem r300_257 : zR d 300 Q 257 (o0 :: o1 :: o2 :: some (.int x) :: l) st h = zR d 300 Q 258 (o0 :: o1 :: o2 :: some (.int x) :: l) (.int x :: st) h := q_in rfl rfl
theorem r300_258 : zR d 300 Q 258 lv st h = zR d 300 Q 259 lv (.int 1 :: st) h := q_in rfl rfl
theorem r300_259 : zR d 300 Q 259 lv (.int z :: .int x :: st) h = zR d 300 Q 260 lv (.int (x + z) :: st) h := q_in rfl rfl
theorem r300_260 : zR d 300 Q 260 lv (.int x :: .ref c :: st) h = zal c x h (fun w => zR d 300 Q 261 lv (.int w :: st) h) := q_iald rfl
theorem r300_261 : zR d 300 Q 261 (some (.ref c) :: l) st h = zR d 300 Q 262 (some (.ref c) :: l) (.ref c :: st) h := q_in rfl rfl
theorem r300_262 : zR d 300 Q 262 (o0 :: o1 :: o2 :: some (.int x) :: l) st h = zR d 300 Q 263 (o0 :: o1 :: o2 :: some (.int x) :: l) (.int x :: st) h := q_in rfl rfl
theorem r300_263 : zR d 300 Q 263 lv st h = zR d 300 Q 264 lv (.int 2 :: st) h := q_in rfl rfl
theorem r300_264 : zR d 300 Q 264 lv (.int z :: .int x :: st) h = zR d 300 Q 265 lv (.int (x + z) :: st) h := q_in rfl rfl
theorem r300_265 : zR d 300 Q 265 lv (.int x :: .ref c :: st) h = zal c x h (fun w => zR d 300 Q 266 lv (.int w :: st) h) := q_iald rfl
theorem r300_266 : zR d 300 Q 266 lv [.int x1, .int x0, .ref 0] h = zM d 59 [.ref 0, .int x0, .int x1] h (fun r h' => zR d 300 Q 269 lv (r.toList ++ []) h') := (q_clV rfl rfl (Nat.le_of_ble_eq_true rfl)).trans (zand_t ⟨rfl, Nat.le_of_ble_eq_true rfl⟩)
theorem r300_269 : zR d 300 Q 269 (o0 :: o1 :: some (.ref c) :: l) st h = zR d 300 Q 270 (o0 :: o1 :: some (.ref c) :: l) (.ref c :: st) h := q_in rfl rfl
theorem r300_270 : zR d 300 Q 270 (some (.ref c) :: l) st h = zR d 300 Q 271 (some (.ref c) :: l) (.ref c :: st) h := q_in rfl rfl
theorem r300_271 : zR d 300 Q 271 (o0 :: o1 :: o2 :: some (.int x) :: l) st h = zR d 300 Q 272 (o0 :: o1 :: o2 :: some (.int x) :: l) (.int x :: st) h := q_in rfl rfl
theorem r300_272 : zR d 300 Q 272 lv st h = zR d 300 Q 273 lv (.int 1 :: st) h := q_in rfl rfl
theorem r300_273 : zR d 300 Q 273 lv (.int z :: .int x :: st) h = zR d 300 Q 274 lv (.int (x + z) :: st) h := q_in rfl rfl
theorem r300_274 : zR d 300 Q 274 lv (.int x :: .ref c :: st) h = zal c x h (fun w => zR d 300 Q 275 lv (.int w :: st) h) := q_iald rfl
theorem r300_275 : zR d 300 Q 275 (some (.ref c) :: l) st h = zR d 300 Q 276 (some (.ref c) :: l) (.ref c :: st) h := q_in rfl rfl
theorem r300_276 : zR d 300 Q 276 (o0 :: o1 :: o2 :: some (.int x) :: l) st h = zR d 300 Q 277 (o0 :: o1 :: o2 :: some (.int x) :: l) (.int x :: st) h := q_in rfl rfl
theorem r300_277 : zR d 300 Q 277 lv st h = zR d 300 Q 278 lv (.int 2 :: st) h := q_in rfl rfl
theorem r300_278 : zR d 300 Q 278 lv (.int z :: .int x :: st) h = zR d 300 Q 279 lv (.int (x + z) :: st) h := q_in rfl rfl
theorem r300_279 : zR d 300 Q 279 lv (.int x :: .ref c :: st) h = zal c x h (fun w => zR d 300 Q 280 lv (.int w :: st) h) := q_iald rfl
theorem r300_280 : zR d 300 Q 280 lv [.int x1, .int x0, .ref 60, .int y0] h = zM d 124 [.ref 60, .int x0, .int x1] h (fun r h' => zR d 300 Q 283 lv (r.toList ++ [.int y0]) h') := (q_clV rfl rfl (Nat.le_of_ble_eq_true rfl)).trans (zand_t ⟨rfl, Nat.le_of_ble_eq_true rfl⟩)
theorem r300_283 : zR d 300 Q 283 lv (.int z :: .int x :: st) h = if x = z then zR d 300 Q 1375 lv st h else zR d 300 Q 286 lv st h := q_if rfl rfl
theorem r300_286 : zR d 300 Q 286 lv st h = zR d 300 Q 287 lv (.int 0 :: st) h := q_in rfl rfl
theorem r300_287f : zR d 300 Q 287 lv [.int 0] h = Q (some (.int 0)) h := q_retz rfl rfl (Or.inr (Or.inl rfl))
theorem r300_287t : zR d 300 Q 287 lv [.int 1] h = Q (some (.int 1)) h := q_retz rfl rfl (Or.inr (Or.inr rfl))
theorem r300_288 : zR d 300 Q 288 (o0 :: some (.ref c) :: l) st h = zR d 300 Q 289 (o0 :: some (.ref c) :: l) (.ref c :: st) h := q_in rfl rfl
theorem r300_289 : zR d 300 Q 289 (some (.ref c) :: l) st h = zR d 300 Q 290 (some (.ref c) :: l) (.ref c :: st) h := q_in rfl rfl
theorem r300_290 : zR d 300 Q 290 (o0 :: o1 :: o2 :: some (.int x) :: l) st h = zR d 300 Q 291 (o0 :: o1 :: o2 :: some (.int x) :: l) (.int x :: st) h := q_in rfl rfl
theorem r300_291 : zR d 300 Q 291 lv st h = zR d 300 Q 292 lv (.int 1 :: st) h := q_in rfl rfl
theorem r300_292 : zR d 300 Q 292 lv (.int z :: .int x :: st) h = zR d 300 Q 293 lv (.int (x + z) :: st) h := q_in rfl rfl
theorem r300_293 : zR d 300 Q 293 lv (.int x :: .ref c :: st) h = zal c x h (fun w => zR d 300 Q 294 lv (.int w :: st) h) := q_iald rfl
theorem r300_294 : zR d 300 Q 294 (some (.ref c) :: l) st h = zR d 300 Q 295 (some (.ref c) :: l) (.ref c :: st) h := q_in rfl rfl
theorem r300_295 : zR d 300 Q 295 (o0 :: o1 :: o2 :: some (.int x) :: l) st h = zR d 300 Q 296 (o0 :: o1 :: o2 :: some (.int x) :: l) (.int x :: st) h := q_in rfl rfl
theorem r300_296 : zR d 300 Q 296 lv st h = zR d 300 Q 297 lv (.int 2 :: st) h := q_in rfl rfl
theorem r300_297 : zR d 300 Q 297 lv (.int z :: .int x :: st) h = zR d 300 Q 298 lv (.int (x + z) :: st) h := q_in rfl rfl
theorem r300_298 : zR d 300 Q 298 lv (.int x :: .ref c :: st) h = zal c x h (fun w => zR d 300 Q 299 lv (.int w :: st) h) := q_iald rfl
theorem r300_299 : zR d 300 Q 299 lv [.int x1, .int x0, .ref 0] h = zM d 60 [.ref 0, .int x0, .int x1] h (fun r h' => zR d 300 Q 302 lv (r.toList ++ []) h') := (q_clV rfl rfl (Nat.le_of_ble_eq_true rfl)).trans (zand_t ⟨rfl, Nat.le_of_ble_eq_true rfl⟩)
theorem r300_302 : zR d 300 Q 302 (o0 :: o1 :: some (.ref c) :: l) st h = zR d 300 Q 303 (o0 :: o1 :: some (.ref c) :: l) (.ref c :: st) h := q_in rfl rfl
theorem r300_303 : zR d 300 Q 303 (some (.ref c) :: l) st h = zR d 300 Q 304 (some (.ref c) :: l) (.ref c :: st) h := q_in rfl rfl
theorem r300_304 : zR d 300 Q 304 (o0 :: o1 :: o2 :: some (.int x) :: l) st h = zR d 300 Q 305 (o0 :: o1 :: o2 :: some (.int x) :: l) (.int x :: st) h := q_in rfl rfl
theorem r300_305 : zR d 300 Q 305 lv st h = zR d 300 Q 306 lv (.int 1 :: st) h := q_in rfl rfl
theorem r300_306 : zR d 300 Q 306 lv (.int z :: .int x :: st) h = zR d 300 Q 307 lv (.int (x + z) :: st) h := q_in rfl rfl
theorem r300_307 : zR d 300 Q 307 lv (.int x :: .ref c :: st) h = zal c x h (fun w => zR d 300 Q 308 lv (.int w :: st) h) := q_iald rfl
theorem r300_308 : zR d 300 Q 308 (some (.ref c) :: l) st h = zR d 300 Q 309 (some (.ref c) :: l) (.ref c :: st) h := q_in rfl rfl
theorem r300_309 : zR d 300 Q 309 (o0 :: o1 :: o2 :: some (.int x) :: l) st h = zR d 300 Q 310 (o0 :: o1 :: o2 :: some (.int x) :: l) (.int x :: st) h := q_in rfl rfl
theorem r300_310 : zR d 300 Q 310 lv st h = zR d 300 Q 311 lv (.int 2 :: st) h := q_in rfl rfl
theorem r300_311 : zR d 300 Q 311 lv (.int z :: .int x :: st) h = zR d 300 Q 312 lv (.int (x + z) :: st) h := q_in rfl rfl
theorem r300_312 : zR d 300 Q 312 lv (.int x :: .ref c :: st) h = zal c x h (fun w => zR d 300 Q 313 lv (.int w :: st) h) := q_iald rfl
theorem r300_313 : zR d 300 Q 313 lv [.int x1, .int x0, .ref 60, .int y0] h = zM d 126 [.ref 60, .int x0, .int x1] h (fun r h' => zR d 300 Q 316 lv (r.toList ++ [.int y0]) h') := (q_clV rfl rfl (Nat.le_of_ble_eq_true rfl)).trans (zand_t ⟨rfl, Nat.le_of_ble_eq_true rfl⟩)
theorem r300_316 : zR d 300 Q 316 lv (.int z :: .int x :: st) h = if x = z then zR d 300 Q 1375 lv st h else zR d 300 Q 319 lv st h := q_if rfl rfl
theorem r300_319 : zR d 300 Q 319 lv st h = zR d 300 Q 320 lv (.int 0 :: st) h := q_in rfl rfl
theorem r300_320f : zR d 300 Q 320 lv [.int 0] h = Q (some (.int 0)) h := q_retz rfl rfl (Or.inr (Or.inl rfl))
theorem r300_320t : zR d 300 Q 320 lv [.int 1] h = Q (some (.int 1)) h := q_retz rfl rfl (Or.inr (Or.inr rfl))
theorem r300_321 : zR d 300 Q 321 (o0 :: some (.ref c) :: l) st h = zR d 300 Q 322 (o0 :: some (.ref c) :: l) (.ref c :: st) h := q_in rfl rfl
theorem r300_322 : zR d 300 Q 322 (some (.ref c) :: l) st h = zR d 300 Q 323 (some (.ref c) :: l) (.ref c :: st) h := q_in rfl rfl
theorem r300_323 : zR d 300 Q 323 (o0 :: o1 :: o2 :: some (.int x) :: l) st h = zR d 300 Q 324 (o0 :: o1 :: o2 :: some (.int x) :: l) (.int x :: st) h := q_in rfl rfl
theorem r300_324 : zR d 300 Q 324 lv st h = zR d 300 Q 325 lv (.int 1 :: st) h := q_in rfl rfl
theorem r300_325 : zR d 300 Q 325 lv (.int z :: .int x :: st) h = zR d 300 Q 326 lv (.int (x + z) :: st) h := q_in rfl rfl
theorem r300_326 : zR d 300 Q 326 lv (.int x :: .ref c :: st) h = zal c x h (fun w => zR d 300 Q 327 lv (.int w :: st) h) := q_iald rfl
theorem r300_327 : zR d 300 Q 327 (some (.ref c) :: l) st h = zR d 300 Q 328 (some (.ref c) :: l) (.ref c :: st) h := q_in rfl rfl
theorem r300_328 : zR d 300 Q 328 (o0 :: o1 :: o2 :: some (.int x) :: l) st h = zR d 300 Q 329 (o0 :: o1 :: o2 :: some (.int x) :: l) (.int x :: st) h := q_in rfl rfl
theorem r300_329 : zR d 300 Q 329 lv st h = zR d 300 Q 330 lv (.int 2 :: st) h := q_in rfl rfl
theorem r300_330 : zR d 300 Q 330 lv (.int z :: .int x :: st) h = zR d 300 Q 331 lv (.int (x + z) :: st) h := q_in rfl rfl
theorem r300_331 : zR d 300 Q 331 lv (.int x :: .ref c :: st) h = zal c x h (fun w => zR d 300 Q 332 lv (.int w :: st) h) := q_iald rfl
theorem r300_332 : zR d 300 Q 332 lv [.int x1, .int x0, .ref 0] h = zM d 61 [.ref 0, .int x0, .int x1] h (fun r h' => zR d 300 Q 335 lv (r.toList ++ []) h') := (q_clV rfl rfl (Nat.le_of_ble_eq_true rfl)).trans (zand_t ⟨rfl, Nat.le_of_ble_eq_true rfl⟩)
theorem r300_335 : zR d 300 Q 335 (o0 :: o1 :: some (.ref c) :: l) st h = zR d 300 Q 336 (o0 :: o1 :: some (.ref c) :: l) (.ref c :: st) h := q_in rfl rfl
theorem r300_336 : zR d 300 Q 336 (some (.ref c) :: l) st h = zR d 300 Q 337 (some (.ref c) :: l) (.ref c :: st) h := q_in rfl rfl
theorem r300_337 : zR d 300 Q 337 (o0 :: o1 :: o2 :: some (.int x) :: l) st h = zR d 300 Q 338 (o0 :: o1 :: o2 :: some (.int x) :: l) (.int x :: st) h := q_in rfl rfl
theorem r300_338 : zR d 300 Q 338 lv st h = zR d 300 Q 339 lv (.int 1 :: st) h := q_in rfl rfl
theorem r300_339 : zR d 300 Q 339 lv (.int z :: .int x :: st) h = zR d 300 Q 340 lv (.int (x + z) :: st) h := q_in rfl rfl
theorem r300_340 : zR d 300 Q 340 lv (.int x :: .ref c :: st) h = zal c x h (fun w => zR d 300 Q 341 lv (.int w :: st) h) := q_iald rfl
theorem r300_341 : zR d 300 Q 341 (some (.ref c) :: l) st h = zR d 300 Q 342 (some (.ref c) :: l) (.ref c :: st) h := q_in rfl rfl
theorem r300_342 : zR d 300 Q 342 (o0 :: o1 :: o2 :: some (.int x) :: l) st h = zR d 300 Q 343 (o0 :: o1 :: o2 :: some (.int x) :: l) (.int x :: st) h := q_in rfl rfl
theorem r300_343 : zR d 300 Q 343 lv st h = zR d 300 Q 344 lv (.int 2 :: st) h := q_in rfl rfl
theorem r300_344 : zR d 300 Q 344 lv (.int z :: .int x :: st) h = zR d 300 Q 345 lv (.int (x + z) :: st) h := q_in rfl rfl
theorem r300_345 : zR d 300 Q 345 lv (.int x :: .ref c :: st) h = zal c x h (fun w => zR d 300 Q 346 lv (.int w :: st) h) := q_iald rfl
theorem r300_346 : zR d 300 Q 346 lv [.int x1, .int x0, .ref 60, .int y0] h = zM d 127 [.ref 60, .int x0, .int x1] h (fun r h' => zR d 300 Q 349 lv (r.toList ++ [.int y0]) h') := (q_clV rfl rfl (Nat.le_of_ble_eq_true rfl)).trans (zand_t ⟨rfl, Nat.le_of_ble_eq_true rfl⟩)
theorem r300_349 : zR d 300 Q 349 lv (.int z :: .int x :: st) h = if x = z then zR d 300 Q 1375 lv st h else zR d 300 Q 352 lv st h := q_if rfl rfl
theorem r300_352 : zR d 300 Q 352 lv st h = zR d 300 Q 353 lv (.int 0 :: st) h := q_in rfl rfl
theorem r300_353f : zR d 300 Q 353 lv [.int 0] h = Q (some (.int 0)) h := q_retz rfl rfl (Or.inr (Or.inl rfl))
theorem r300_353t : zR d 300 Q 353 lv [.int 1] h = Q (some (.int 1)) h := q_retz rfl rfl (Or.inr (Or.inr rfl))
theorem r300_354 : zR d 300 Q 354 (o0 :: some (.ref c) :: l) st h = zR d 300 Q 355 (o0 :: some (.ref c) :: l) (.ref c :: st) h := q_in rfl rfl
theorem r300_355 : zR d 300 Q 355 (some (.ref c) :: l) st h = zR d 300 Q 356 (some (.ref c) :: l) (.ref c :: st) h := q_in rfl rfl
theorem r300_356 : zR d 300 Q 356 (o0 :: o1 :: o2 :: some (.int x) :: l) st h = zR d 300 Q 357 (o0 :: o1 :: o2 :: some (.int x) :: l) (.int x :: st) h := q_in rfl rfl
theorem r300_357 : zR d 300 Q 357 lv st h = zR d 300 Q 358 lv (.int 1 :: st) h := q_in rfl rfl
theorem r300_358 : zR d 300 Q 358 lv (.int z :: .int x :: st) h = zR d 300 Q 359 lv (.int (x + z) :: st) h := q_in rfl rfl
theorem r300_359 : zR d 300 Q 359 lv (.int x :: .ref c :: st) h = zal c x h (fun w => zR d 300 Q 360 lv (.int w :: st) h) := q_iald rfl
theorem r300_360 : zR d 300 Q 360 (some (.ref c) :: l) st h = zR d 300 Q 361 (some (.ref c) :: l) (.ref c :: st) h := q_in rfl rfl
theorem r300_361 : zR d 300 Q 361 (o0 :: o1 :: o2 :: some (.int x) :: l) st h = zR d 300 Q 362 (o0 :: o1 :: o2 :: some (.int x) :: l) (.int x :: st) h := q_in rfl rfl
theorem r300_362 : zR d 300 Q 362 lv st h = zR d 300 Q 363 lv (.int 2 :: st) h := q_in rfl rfl
theorem r300_363 : zR d 300 Q 363 lv (.int z :: .int x :: st) h = zR d 300 Q 364 lv (.int (x + z) :: st) h := q_in rfl rfl
theorem r300_364 : zR d 300 Q 364 lv (.int x :: .ref c :: st) h = zal c x h (fun w => zR d 300 Q 365 lv (.int w :: st) h) := q_iald rfl
theorem r300_365 : zR d 300 Q 365 (some (.ref c) :: l) st h = zR d 300 Q 366 (some (.ref c) :: l) (.ref c :: st) h := q_in rfl rfl
theorem r300_366 : zR d 300 Q 366 (o0 :: o1 :: o2 :: some (.int x) :: l) st h = zR d 300 Q 367 (o0 :: o1 :: o2 :: some (.int x) :: l) (.int x :: st) h := q_in rfl rfl
theorem r300_367 : zR d 300 Q 367 lv st h = zR d 300 Q 368 lv (.int 3 :: st) h := q_in rfl rfl
theorem r300_368 : zR d 300 Q 368 lv (.int z :: .int x :: st) h = zR d 300 Q 369 lv (.int (x + z) :: st) h := q_in rfl rfl
theorem r300_369 : zR d 300 Q 369 lv (.int x :: .ref c :: st) h = zal c x h (fun w => zR d 300 Q 370 lv (.int w :: st) h) := q_iald rfl
theorem r300_370 : zR d 300 Q 370 lv [.int x2, .int x1, .int x0, .ref 0] h = zM d 62 [.ref 0, .int x0, .int x1, .int x2] h (fun r h' => zR d 300 Q 373 lv (r.toList ++ []) h') := (q_clV rfl rfl (Nat.le_of_ble_eq_true rfl)).trans (zand_t ⟨rfl, Nat.le_of_ble_eq_true rfl⟩)
theorem r300_373 : zR d 300 Q 373 (o0 :: o1 :: some (.ref c) :: l) st h = zR d 300 Q 374 (o0 :: o1 :: some (.ref c) :: l) (.ref c :: st) h := q_in rfl rfl
theorem r300_374 : zR d 300 Q 374 (some (.ref c) :: l) st h = zR d 300 Q 375 (some (.ref c) :: l) (.ref c :: st) h := q_in rfl rfl
theorem r300_375 : zR d 300 Q 375 (o0 :: o1 :: o2 :: some (.int x) :: l) st h = zR d 300 Q 376 (o0 :: o1 :: o2 :: some (.int x) :: l) (.int x :: st) h := q_in rfl rfl
theorem r300_376 : zR d 300 Q 376 lv st h = zR d 300 Q 377 lv (.int 1 :: st) h := q_in rfl rfl
theorem r300_377 : zR d 300 Q 377 lv (.int z :: .int x :: st) h = zR d 300 Q 378 lv (.int (x + z) :: st) h := q_in rfl rfl
theorem r300_378 : zR d 300 Q 378 lv (.int x :: .ref c :: st) h = zal c x h (fun w => zR d 300 Q 379 lv (.int w :: st) h) := q_iald rfl
theorem r300_379 : zR d 300 Q 379 (some (.ref c) :: l) st h = zR d 300 Q 380 (some (.ref c) :: l) (.ref c :: st) h := q_in rfl rfl
theorem r300_380 : zR d 300 Q 380 (o0 :: o1 :: o2 :: some (.int x) :: l) st h = zR d 300 Q 381 (o0 :: o1 :: o2 :: some (.int x) :: l) (.int x :: st) h := q_in rfl rfl
theorem r300_381 : zR d 300 Q 381 lv st h = zR d 300 Q 382 lv (.int 2 :: st) h := q_in rfl rfl
theorem r300_382 : zR d 300 Q 382 lv (.int z :: .int x :: st) h = zR d 300 Q 383 lv (.int (x + z) :: st) h := q_in rfl rfl
theorem r300_383 : zR d 300 Q 383 lv (.int x :: .ref c :: st) h = zal c x h (fun w => zR d 300 Q 384 lv (.int w :: st) h) := q_iald rfl
theorem r300_384 : zR d 300 Q 384 (some (.ref c) :: l) st h = zR d 300 Q 385 (some (.ref c) :: l) (.ref c :: st) h := q_in rfl rfl
theorem r300_385 : zR d 300 Q 385 (o0 :: o1 :: o2 :: some (.int x) :: l) st h = zR d 300 Q 386 (o0 :: o1 :: o2 :: some (.int x) :: l) (.int x :: st) h := q_in rfl rfl
theorem r300_386 : zR d 300 Q 386 lv st h = zR d 300 Q 387 lv (.int 3 :: st) h := q_in rfl rfl
theorem r300_387 : zR d 300 Q 387 lv (.int z :: .int x :: st) h = zR d 300 Q 388 lv (.int (x + z) :: st) h := q_in rfl rfl
theorem r300_388 : zR d 300 Q 388 lv (.int x :: .ref c :: st) h = zal c x h (fun w => zR d 300 Q 389 lv (.int w :: st) h) := q_iald rfl
theorem r300_389 : zR d 300 Q 389 lv [.int x2, .int x1, .int x0, .ref 60, .int y0] h = zM d 128 [.ref 60, .int x0, .int x1, .int x2] h (fun r h' => zR d 300 Q 392 lv (r.toList ++ [.int y0]) h') := (q_clV rfl rfl (Nat.le_of_ble_eq_true rfl)).trans (zand_t ⟨rfl, Nat.le_of_ble_eq_true rfl⟩)
theorem r300_392 : zR d 300 Q 392 lv (.int z :: .int x :: st) h = if x = z then zR d 300 Q 1375 lv st h else zR d 300 Q 395 lv st h := q_if rfl rfl
theorem r300_395 : zR d 300 Q 395 lv st h = zR d 300 Q 396 lv (.int 0 :: st) h := q_in rfl rfl
theorem r300_396f : zR d 300 Q 396 lv [.int 0] h = Q (some (.int 0)) h := q_retz rfl rfl (Or.inr (Or.inl rfl))
theorem r300_396t : zR d 300 Q 396 lv [.int 1] h = Q (some (.int 1)) h := q_retz rfl rfl (Or.inr (Or.inr rfl))
theorem r300_397 : zR d 300 Q 397 (o0 :: some (.ref c) :: l) st h = zR d 300 Q 398 (o0 :: some (.ref c) :: l) (.ref c :: st) h := q_in rfl rfl
theorem r300_398 : zR d 300 Q 398 (some (.ref c) :: l) st h = zR d 300 Q 399 (some (.ref c) :: l) (.ref c :: st) h := q_in rfl rfl
theorem r300_399 : zR d 300 Q 399 (o0 :: o1 :: o2 :: some (.int x) :: l) st h = zR d 300 Q 400 (o0 :: o1 :: o2 :: some (.int x) :: l) (.int x :: st) h := q_in rfl rfl
theorem r300_400 : zR d 300 Q 400 lv st h = zR d 300 Q 401 lv (.int 1 :: st) h := q_in rfl rfl
theorem r300_401 : zR d 300 Q 401 lv (.int z :: .int x :: st) h = zR d 300 Q 402 lv (.int (x + z) :: st) h := q_in rfl rfl
theorem r300_402 : zR d 300 Q 402 lv (.int x :: .ref c :: st) h = zal c x h (fun w => zR d 300 Q 403 lv (.int w :: st) h) := q_iald rfl
theorem r300_403 : zR d 300 Q 403 lv [.int x0, .ref 0] h = zM d 63 [.ref 0, .int x0] h (fun r h' => zR d 300 Q 406 lv (r.toList ++ []) h') := (q_clV rfl rfl (Nat.le_of_ble_eq_true rfl)).trans (zand_t ⟨rfl, Nat.le_of_ble_eq_true rfl⟩)
theorem r300_406 : zR d 300 Q 406 (o0 :: o1 :: some (.ref c) :: l) st h = zR d 300 Q 407 (o0 :: o1 :: some (.ref c) :: l) (.ref c :: st) h := q_in rfl rfl
theorem r300_407 : zR d 300 Q 407 (some (.ref c) :: l) st h = zR d 300 Q 408 (some (.ref c) :: l) (.ref c :: st) h := q_in rfl rfl
theorem r300_408 : zR d 300 Q 408 (o0 :: o1 :: o2 :: some (.int x) :: l) st h = zR d 300 Q 409 (o0 :: o1 :: o2 :: some (.int x) :: l) (.int x :: st) h := q_in rfl rfl
theorem r300_409 : zR d 300 Q 409 lv st h = zR d 300 Q 410 lv (.int 1 :: st) h := q_in rfl rfl
theorem r300_410 : zR d 300 Q 410 lv (.int z :: .int x :: st) h = zR d 300 Q 411 lv (.int (x + z) :: st) h := q_in rfl rfl
theorem r300_411 : zR d 300 Q 411 lv (.int x :: .ref c :: st) h = zal c x h (fun w => zR d 300 Q 412 lv (.int w :: st) h) := q_iald rfl
theorem r300_412 : zR d 300 Q 412 lv [.int x0, .ref 60, .int y0] h = zM d 131 [.ref 60, .int x0] h (fun r h' => zR d 300 Q 415 lv (r.toList ++ [.int y0]) h') := (q_clV rfl rfl (Nat.le_of_ble_eq_true rfl)).trans (zand_t ⟨rfl, Nat.le_of_ble_eq_true rfl⟩)
theorem r300_415 : zR d 300 Q 415 lv (.int z :: .int x :: st) h = if x = z then zR d 300 Q 1375 lv st h else zR d 300 Q 418 lv st h := q_if rfl rfl
theorem r300_418 : zR d 300 Q 418 lv st h = zR d 300 Q 419 lv (.int 0 :: st) h := q_in rfl rfl
theorem r300_419f : zR d 300 Q 419 lv [.int 0] h = Q (some (.int 0)) h := q_retz rfl rfl (Or.inr (Or.inl rfl))
theorem r300_419t : zR d 300 Q 419 lv [.int 1] h = Q (some (.int 1)) h := q_retz rfl rfl (Or.inr (Or.inr rfl))
theorem r300_420 : zR d 300 Q 420 (o0 :: some (.ref c) :: l) st h = zR d 300 Q 421 (o0 :: some (.ref c) :: l) (.ref c :: st) h := q_in rfl rfl
theorem r300_421 : zR d 300 Q 421 (some (.ref c) :: l) st h = zR d 300 Q 422 (some (.ref c) :: l) (.ref c :: st) h := q_in rfl rfl
theorem r300_422 : zR d 300 Q 422 (o0 :: o1 :: o2 :: some (.int x) :: l) st h = zR d 300 Q 423 (o0 :: o1 :: o2 :: some (.int x) :: l) (.int x :: st) h := q_in rfl rfl
theorem r300_423 : zR d 300 Q 423 lv st h = zR d 300 Q 424 lv (.int 1 :: st) h := q_in rfl rfl
theorem r300_424 : zR d 300 Q 424 lv (.int z :: .int x :: st) h = zR d 300 Q 425 lv (.int (x + z) :: st) h := q_in rfl rfl
theorem r300_425 : zR d 300 Q 425 lv (.int x :: .ref c :: st) h = zal c x h (fun w => zR d 300 Q 426 lv (.int w :: st) h) := q_iald rfl
theorem r300_426 : zR d 300 Q 426 (some (.ref c) :: l) st h = zR d 300 Q 427 (some (.ref c) :: l) (.ref c :: st) h := q_in rfl rfl
theorem r300_427 : zR d 300 Q 427 (o0 :: o1 :: o2 :: some (.int x) :: l) st h = zR d 300 Q 428 (o0 :: o1 :: o2 :: some (.int x) :: l) (.int x :: st) h := q_in rfl rfl
theorem r300_428 : zR d 300 Q 428 lv st h = zR d 300 Q 429 lv (.int 2 :: st) h := q_in rfl rfl
theorem r300_429 : zR d 300 Q 429 lv (.int z :: .int x :: st) h = zR d 300 Q 430 lv (.int (x + z) :: st) h := q_in rfl rfl
theorem r300_430 : zR d 300 Q 430 lv (.int x :: .ref c :: st) h = zal c x h (fun w => zR d 300 Q 431 lv (.int w :: st) h) := q_iald rfl
theorem r300_431 : zR d 300 Q 431 lv [.int x1, .int x0, .ref 0] h = zM d 64 [.ref 0, .int x0, .int x1] h (fun r h' => zR d 300 Q 434 lv (r.toList ++ []) h') := (q_clV rfl rfl (Nat.le_of_ble_eq_true rfl)).trans (zand_t ⟨rfl, Nat.le_of_ble_eq_true rfl⟩)
theorem r300_434 : zR d 300 Q 434 (o0 :: o1 :: some (.ref c) :: l) st h = zR d 300 Q 435 (o0 :: o1 :: some (.ref c) :: l) (.ref c :: st) h := q_in rfl rfl
theorem r300_435 : zR d 300 Q 435 (some (.ref c) :: l) st h = zR d 300 Q 436 (some (.ref c) :: l) (.ref c :: st) h := q_in rfl rfl
theorem r300_436 : zR d 300 Q 436 (o0 :: o1 :: o2 :: some (.int x) :: l) st h = zR d 300 Q 437 (o0 :: o1 :: o2 :: some (.int x) :: l) (.int x :: st) h := q_in rfl rfl
theorem r300_437 : zR d 300 Q 437 lv st h = zR d 300 Q 438 lv (.int 1 :: st) h := q_in rfl rfl
theorem r300_438 : zR d 300 Q 438 lv (.int z :: .int x :: st) h = zR d 300 Q 439 lv (.int (x + z) :: st) h := q_in rfl rfl
theorem r300_439 : zR d 300 Q 439 lv (.int x :: .ref c :: st) h = zal c x h (fun w => zR d 300 Q 440 lv (.int w :: st) h) := q_iald rfl
theorem r300_440 : zR d 300 Q 440 (some (.ref c) :: l) st h = zR d 300 Q 441 (some (.ref c) :: l) (.ref c :: st) h := q_in rfl rfl
theorem r300_441 : zR d 300 Q 441 (o0 :: o1 :: o2 :: some (.int x) :: l) st h = zR d 300 Q 442 (o0 :: o1 :: o2 :: some (.int x) :: l) (.int x :: st) h := q_in rfl rfl
theorem r300_442 : zR d 300 Q 442 lv st h = zR d 300 Q 443 lv (.int 2 :: st) h := q_in rfl rfl
theorem r300_443 : zR d 300 Q 443 lv (.int z :: .int x :: st) h = zR d 300 Q 444 lv (.int (x + z) :: st) h := q_in rfl rfl
theorem r300_444 : zR d 300 Q 444 lv (.int x :: .ref c :: st) h = zal c x h (fun w => zR d 300 Q 445 lv (.int w :: st) h) := q_iald rfl
theorem r300_445 : zR d 300 Q 445 lv [.int x1, .int x0, .ref 60, .int y0] h = zM d 133 [.ref 60, .int x0, .int x1] h (fun r h' => zR d 300 Q 448 lv (r.toList ++ [.int y0]) h') := (q_clV rfl rfl (Nat.le_of_ble_eq_true rfl)).trans (zand_t ⟨rfl, Nat.le_of_ble_eq_true rfl⟩)
theorem r300_448 : zR d 300 Q 448 lv (.int z :: .int x :: st) h = if x = z then zR d 300 Q 1375 lv st h else zR d 300 Q 451 lv st h := q_if rfl rfl
theorem r300_451 : zR d 300 Q 451 lv st h = zR d 300 Q 452 lv (.int 0 :: st) h := q_in rfl rfl
theorem r300_452f : zR d 300 Q 452 lv [.int 0] h = Q (some (.int 0)) h := q_retz rfl rfl (Or.inr (Or.inl rfl))
theorem r300_452t : zR d 300 Q 452 lv [.int 1] h = Q (some (.int 1)) h := q_retz rfl rfl (Or.inr (Or.inr rfl))
theorem r300_453 : zR d 300 Q 453 (o0 :: some (.ref c) :: l) st h = zR d 300 Q 454 (o0 :: some (.ref c) :: l) (.ref c :: st) h := q_in rfl rfl
theorem r300_454 : zR d 300 Q 454 (some (.ref c) :: l) st h = zR d 300 Q 455 (some (.ref c) :: l) (.ref c :: st) h := q_in rfl rfl
theorem r300_455 : zR d 300 Q 455 (o0 :: o1 :: o2 :: some (.int x) :: l) st h = zR d 300 Q 456 (o0 :: o1 :: o2 :: some (.int x) :: l) (.int x :: st) h := q_in rfl rfl
theorem r300_456 : zR d 300 Q 456 lv st h = zR d 300 Q 457 lv (.int 1 :: st) h := q_in rfl rfl
theorem r300_457 : zR d 300 Q 457 lv (.int z :: .int x :: st) h = zR d 300 Q 458 lv (.int (x + z) :: st) h := q_in rfl rfl
theorem r300_458 : zR d 300 Q 458 lv (.int x :: .ref c :: st) h = zal c x h (fun w => zR d 300 Q 459 lv (.int w :: st) h) := q_iald rfl
theorem r300_459 : zR d 300 Q 459 lv [.int x0, .ref 0] h = zM d 65 [.ref 0, .int x0] h (fun r h' => zR d 300 Q 462 lv (r.toList ++ []) h') := (q_clV rfl rfl (Nat.le_of_ble_eq_true rfl)).trans (zand_t ⟨rfl, Nat.le_of_ble_eq_true rfl⟩)
theorem r300_462 : zR d 300 Q 462 (o0 :: o1 :: some (.ref c) :: l) st h = zR d 300 Q 463 (o0 :: o1 :: some (.ref c) :: l) (.ref c :: st) h := q_in rfl rfl
theorem r300_463 : zR d 300 Q 463 (some (.ref c) :: l) st h = zR d 300 Q 464 (some (.ref c) :: l) (.ref c :: st) h := q_in rfl rfl
theorem r300_464 : zR d 300 Q 464 (o0 :: o1 :: o2 :: some (.int x) :: l) st h = zR d 300 Q 465 (o0 :: o1 :: o2 :: some (.int x) :: l) (.int x :: st) h := q_in rfl rfl
theorem r300_465 : zR d 300 Q 465 lv st h = zR d 300 Q 466 lv (.int 1 :: st) h := q_in rfl rfl
theorem r300_466 : zR d 300 Q 466 lv (.int z :: .int x :: st) h = zR d 300 Q 467 lv (.int (x + z) :: st) h := q_in rfl rfl
theorem r300_467 : zR d 300 Q 467 lv (.int x :: .ref c :: st) h = zal c x h (fun w => zR d 300 Q 468 lv (.int w :: st) h) := q_iald rfl
theorem r300_468 : zR d 300 Q 468 lv [.int x0, .ref 60, .int y0] h = zM d 135 [.ref 60, .int x0] h (fun r h' => zR d 300 Q 471 lv (r.toList ++ [.int y0]) h') := (q_clV rfl rfl (Nat.le_of_ble_eq_true rfl)).trans (zand_t ⟨rfl, Nat.le_of_ble_eq_true rfl⟩)
theorem r300_471 : zR d 300 Q 471 lv (.int z :: .int x :: st) h = if x = z then zR d 300 Q 1375 lv st h else zR d 300 Q 474 lv st h := q_if rfl rfl
theorem r300_474 : zR d 300 Q 474 lv st h = zR d 300 Q 475 lv (.int 0 :: st) h := q_in rfl rfl
theorem r300_475f : zR d 300 Q 475 lv [.int 0] h = Q (some (.int 0)) h := q_retz rfl rfl (Or.inr (Or.inl rfl))
theorem r300_475t : zR d 300 Q 475 lv [.int 1] h = Q (some (.int 1)) h := q_retz rfl rfl (Or.inr (Or.inr rfl))
theorem r300_476 : zR d 300 Q 476 (o0 :: some (.ref c) :: l) st h = zR d 300 Q 477 (o0 :: some (.ref c) :: l) (.ref c :: st) h := q_in rfl rfl
theorem r300_477 : zR d 300 Q 477 lv [.ref 0] h = zM d 66 [.ref 0] h (fun r h' => zR d 300 Q 480 lv (r.toList ++ []) h') := (q_clV rfl rfl (Nat.le_of_ble_eq_true rfl)).trans (zand_t ⟨rfl, Nat.le_of_ble_eq_true rfl⟩)
theorem r300_480 : zR d 300 Q 480 (o0 :: o1 :: some (.ref c) :: l) st h = zR d 300 Q 481 (o0 :: o1 :: some (.ref c) :: l) (.ref c :: st) h := q_in rfl rfl
theorem r300_481 : zR d 300 Q 481 lv [.ref 60, .int y0] h = zM d 138 [.ref 60] h (fun r h' => zR d 300 Q 484 lv (r.toList ++ [.int y0]) h') := (q_clV rfl rfl (Nat.le_of_ble_eq_true rfl)).trans (zand_t ⟨rfl, Nat.le_of_ble_eq_true rfl⟩)
theorem r300_484 : zR d 300 Q 484 lv (.int z :: .int x :: st) h = if x = z then zR d 300 Q 1375 lv st h else zR d 300 Q 487 lv st h := q_if rfl rfl
theorem r300_487 : zR d 300 Q 487 lv st h = zR d 300 Q 488 lv (.int 0 :: st) h := q_in rfl rfl
theorem r300_488f : zR d 300 Q 488 lv [.int 0] h = Q (some (.int 0)) h := q_retz rfl rfl (Or.inr (Or.inl rfl))
theorem r300_488t : zR d 300 Q 488 lv [.int 1] h = Q (some (.int 1)) h := q_retz rfl rfl (Or.inr (Or.inr rfl))
theorem r300_489 : zR d 300 Q 489 (o0 :: some (.ref c) :: l) st h = zR d 300 Q 490 (o0 :: some (.ref c) :: l) (.ref c :: st) h := q_in rfl rfl
theorem r300_490 : zR d 300 Q 490 (some (.ref c) :: l) st h = zR d 300 Q 491 (some (.ref c) :: l) (.ref c :: st) h := q_in rfl rfl
theorem r300_491 : zR d 300 Q 491 (o0 :: o1 :: o2 :: some (.int x) :: l) st h = zR d 300 Q 492 (o0 :: o1 :: o2 :: some (.int x) :: l) (.int x :: st) h := q_in rfl rfl
theorem r300_492 : zR d 300 Q 492 lv st h = zR d 300 Q 493 lv (.int 1 :: st) h := q_in rfl rfl
theorem r300_493 : zR d 300 Q 493 lv (.int z :: .int x :: st) h = zR d 300 Q 494 lv (.int (x + z) :: st) h := q_in rfl rfl
theorem r300_494 : zR d 300 Q 494 lv (.int x :: .ref c :: st) h = zal c x h (fun w => zR d 300 Q 495 lv (.int w :: st) h) := q_iald rfl
theorem r300_495 : zR d 300 Q 495 lv [.int x0, .ref 0] h = zM d 67 [.ref 0, .int x0] h (fun r h' => zR d 300 Q 498 lv (r.toList ++ []) h') := (q_clV rfl rfl (Nat.le_of_ble_eq_true rfl)).trans (zand_t ⟨rfl, Nat.le_of_ble_eq_true rfl⟩)
theorem r300_498 : zR d 300 Q 498 (o0 :: o1 :: some (.ref c) :: l) st h = zR d 300 Q 499 (o0 :: o1 :: some (.ref c) :: l) (.ref c :: st) h := q_in rfl rfl
theorem r300_499 : zR d 300 Q 499 (some (.ref c) :: l) st h = zR d 300 Q 500 (some (.ref c) :: l) (.ref c :: st) h := q_in rfl rfl
theorem r300_500 : zR d 300 Q 500 (o0 :: o1 :: o2 :: some (.int x) :: l) st h = zR d 300 Q 501 (o0 :: o1 :: o2 :: some (.int x) :: l) (.int x :: st) h := q_in rfl rfl
theorem r300_501 : zR d 300 Q 501 lv st h = zR d 300 Q 502 lv (.int 1 :: st) h := q_in rfl rfl
theorem r300_502 : zR d 300 Q 502 lv (.int z :: .int x :: st) h = zR d 300 Q 503 lv (.int (x + z) :: st) h := q_in rfl rfl
theorem r300_503 : zR d 300 Q 503 lv (.int x :: .ref c :: st) h = zal c x h (fun w => zR d 300 Q 504 lv (.int w :: st) h) := q_iald rfl
theorem r300_504 : zR d 300 Q 504 lv [.int x0, .ref 60, .int y0] h = zM d 139 [.ref 60, .int x0] h (fun r h' => zR d 300 Q 507 lv (r.toList ++ [.int y0]) h') := (q_clV rfl rfl (Nat.le_of_ble_eq_true rfl)).trans (zand_t ⟨rfl, Nat.le_of_ble_eq_true rfl⟩)
theorem r300_507 : zR d 300 Q 507 lv (.int z :: .int x :: st) h = if x = z then zR d 300 Q 1375 lv st h else zR d 300 Q 510 lv st h := q_if rfl rfl
theorem r300_510 : zR d 300 Q 510 lv st h = zR d 300 Q 511 lv (.int 0 :: st) h := q_in rfl rfl
theorem r300_511f : zR d 300 Q 511 lv [.int 0] h = Q (some (.int 0)) h := q_retz rfl rfl (Or.inr (Or.inl rfl))
theorem r300_511t : zR d 300 Q 511 lv [.int 1] h = Q (some (.int 1)) h := q_retz rfl rfl (Or.inr (Or.inr rfl))
theorem r300_512 : zR d 300 Q 512 (o0 :: some (.ref c) :: l) st h = zR d 300 Q 513 (o0 :: some (.ref c) :: l) (.ref c :: st) h := q_in rfl rfl
theorem r300_513 : zR d 300 Q 513 (some (.ref c) :: l) st h = zR d 300 Q 514 (some (.ref c) :: l) (.ref c :: st) h := q_in rfl rfl
theorem r300_514 : zR d 300 Q 514 (o0 :: o1 :: o2 :: some (.int x) :: l) st h = zR d 300 Q 515 (o0 :: o1 :: o2 :: some (.int x) :: l) (.int x :: st) h := q_in rfl rfl
theorem r300_515 : zR d 300 Q 515 lv st h = zR d 300 Q 516 lv (.int 1 :: st) h := q_in rfl rfl
theorem r300_516 : zR d 300 Q 516 lv (.int z :: .int x :: st) h = zR d 300 Q 517 lv (.int (x + z) :: st) h := q_in rfl rfl
theorem r300_517 : zR d 300 Q 517 lv (.int x :: .ref c :: st) h = zal c x h (fun w => zR d 300 Q 518 lv (.int w :: st) h) := q_iald rfl
theorem r300_518 : zR d 300 Q 518 lv [.int x0, .ref 0] h = zM d 68 [.ref 0, .int x0] h (fun r h' => zR d 300 Q 521 lv (r.toList ++ []) h') := (q_clV rfl rfl (Nat.le_of_ble_eq_true rfl)).trans (zand_t ⟨rfl, Nat.le_of_ble_eq_true rfl⟩)
theorem r300_521 : zR d 300 Q 521 (o0 :: o1 :: some (.ref c) :: l) st h = zR d 300 Q 522 (o0 :: o1 :: some (.ref c) :: l) (.ref c :: st) h := q_in rfl rfl
theorem r300_522 : zR d 300 Q 522 (some (.ref c) :: l) st h = zR d 300 Q 523 (some (.ref c) :: l) (.ref c :: st) h := q_in rfl rfl
theorem r300_523 : zR d 300 Q 523 (o0 :: o1 :: o2 :: some (.int x) :: l) st h = zR d 300 Q 524 (o0 :: o1 :: o2 :: some (.int x) :: l) (.int x :: st) h := q_in rfl rfl
theorem r300_524 : zR d 300 Q 524 lv st h = zR d 300 Q 525 lv (.int 1 :: st) h := q_in rfl rfl
theorem r300_525 : zR d 300 Q 525 lv (.int z :: .int x :: st) h = zR d 300 Q 526 lv (.int (x + z) :: st) h := q_in rfl rfl
theorem r300_526 : zR d 300 Q 526 lv (.int x :: .ref c :: st) h = zal c x h (fun w => zR d 300 Q 527 lv (.int w :: st) h) := q_iald rfl
theorem r300_527 : zR d 300 Q 527 lv [.int x0, .ref 60, .int y0] h = zM d 140 [.ref 60, .int x0] h (fun r h' => zR d 300 Q 530 lv (r.toList ++ [.int y0]) h') := (q_clV rfl rfl (Nat.le_of_ble_eq_true rfl)).trans (zand_t ⟨rfl, Nat.le_of_ble_eq_true rfl⟩)
theorem r300_530 : zR d 300 Q 530 lv (.int z :: .int x :: st) h = if x = z then zR d 300 Q 1375 lv st h else zR d 300 Q 533 lv st h := q_if rfl rfl
theorem r300_533 : zR d 300 Q 533 lv st h = zR d 300 Q 534 lv (.int 0 :: st) h := q_in rfl rfl
theorem r300_534f : zR d 300 Q 534 lv [.int 0] h = Q (some (.int 0)) h := q_retz rfl rfl (Or.inr (Or.inl rfl))
theorem r300_534t : zR d 300 Q 534 lv [.int 1] h = Q (some (.int 1)) h := q_retz rfl rfl (Or.inr (Or.inr rfl))
theorem r300_535 : zR d 300 Q 535 (o0 :: some (.ref c) :: l) st h = zR d 300 Q 536 (o0 :: some (.ref c) :: l) (.ref c :: st) h := q_in rfl rfl
theorem r300_536 : zR d 300 Q 536 (some (.ref c) :: l) st h = zR d 300 Q 537 (some (.ref c) :: l) (.ref c :: st) h := q_in rfl rfl
theorem r300_537 : zR d 300 Q 537 (o0 :: o1 :: o2 :: some (.int x) :: l) st h = zR d 300 Q 538 (o0 :: o1 :: o2 :: some (.int x) :: l) (.int x :: st) h := q_in rfl rfl
theorem r300_538 : zR d 300 Q 538 lv st h = zR d 300 Q 539 lv (.int 1 :: st) h := q_in rfl rfl
theorem r300_539 : zR d 300 Q 539 lv (.int z :: .int x :: st) h = zR d 300 Q 540 lv (.int (x + z) :: st) h := q_in rfl rfl
theorem r300_540 : zR d 300 Q 540 lv (.int x :: .ref c :: st) h = zal c x h (fun w => zR d 300 Q 541 lv (.int w :: st) h) := q_iald rfl
theorem r300_541 : zR d 300 Q 541 lv [.int x0, .ref 0] h = zM d 69 [.ref 0, .int x0] h (fun r h' => zR d 300 Q 544 lv (r.toList ++ []) h') := (q_clV rfl rfl (Nat.le_of_ble_eq_true rfl)).trans (zand_t ⟨rfl, Nat.le_of_ble_eq_true rfl⟩)
theorem r300_544 : zR d 300 Q 544 (o0 :: o1 :: some (.ref c) :: l) st h = zR d 300 Q 545 (o0 :: o1 :: some (.ref c) :: l) (.ref c :: st) h := q_in rfl rfl
theorem r300_545 : zR d 300 Q 545 (some (.ref c) :: l) st h = zR d 300 Q 546 (some (.ref c) :: l) (.ref c :: st) h := q_in rfl rfl
theorem r300_546 : zR d 300 Q 546 (o0 :: o1 :: o2 :: some (.int x) :: l) st h = zR d 300 Q 547 (o0 :: o1 :: o2 :: some (.int x) :: l) (.int x :: st) h := q_in rfl rfl
theorem r300_547 : zR d 300 Q 547 lv st h = zR d 300 Q 548 lv (.int 1 :: st) h := q_in rfl rfl
theorem r300_548 : zR d 300 Q 548 lv (.int z :: .int x :: st) h = zR d 300 Q 549 lv (.int (x + z) :: st) h := q_in rfl rfl
theorem r300_549 : zR d 300 Q 549 lv (.int x :: .ref c :: st) h = zal c x h (fun w => zR d 300 Q 550 lv (.int w :: st) h) := q_iald rfl
theorem r300_550 : zR d 300 Q 550 lv [.int x0, .ref 60, .int y0] h = zM d 145 [.ref 60, .int x0] h (fun r h' => zR d 300 Q 553 lv (r.toList ++ [.int y0]) h') := (q_clV rfl rfl (Nat.le_of_ble_eq_true rfl)).trans (zand_t ⟨rfl, Nat.le_of_ble_eq_true rfl⟩)
theorem r300_553 : zR d 300 Q 553 lv (.int z :: .int x :: st) h = if x = z then zR d 300 Q 1375 lv st h else zR d 300 Q 556 lv st h := q_if rfl rfl
theorem r300_556 : zR d 300 Q 556 lv st h = zR d 300 Q 557 lv (.int 0 :: st) h := q_in rfl rfl
theorem r300_557f : zR d 300 Q 557 lv [.int 0] h = Q (some (.int 0)) h := q_retz rfl rfl (Or.inr (Or.inl rfl))
theorem r300_557t : zR d 300 Q 557 lv [.int 1] h = Q (some (.int 1)) h := q_retz rfl rfl (Or.inr (Or.inr rfl))
theorem r300_558 : zR d 300 Q 558 (o0 :: some (.ref c) :: l) st h = zR d 300 Q 559 (o0 :: some (.ref c) :: l) (.ref c :: st) h := q_in rfl rfl
theorem r300_559 : zR d 300 Q 559 (some (.ref c) :: l) st h = zR d 300 Q 560 (some (.ref c) :: l) (.ref c :: st) h := q_in rfl rfl
theorem r300_560 : zR d 300 Q 560 (o0 :: o1 :: o2 :: some (.int x) :: l) st h = zR d 300 Q 561 (o0 :: o1 :: o2 :: some (.int x) :: l) (.int x :: st) h := q_in rfl rfl
theorem r300_561 : zR d 300 Q 561 lv st h = zR d 300 Q 562 lv (.int 1 :: st) h := q_in rfl rfl
theorem r300_562 : zR d 300 Q 562 lv (.int z :: .int x :: st) h = zR d 300 Q 563 lv (.int (x + z) :: st) h := q_in rfl rfl
theorem r300_563 : zR d 300 Q 563 lv (.int x :: .ref c :: st) h = zal c x h (fun w => zR d 300 Q 564 lv (.int w :: st) h) := q_iald rfl
theorem r300_564 : zR d 300 Q 564 lv [.int x0, .ref 0] h = zM d 70 [.ref 0, .int x0] h (fun r h' => zR d 300 Q 567 lv (r.toList ++ []) h') := (q_clV rfl rfl (Nat.le_of_ble_eq_true rfl)).trans (zand_t ⟨rfl, Nat.le_of_ble_eq_true rfl⟩)
theorem r300_567 : zR d 300 Q 567 (o0 :: o1 :: some (.ref c) :: l) st h = zR d 300 Q 568 (o0 :: o1 :: some (.ref c) :: l) (.ref c :: st) h := q_in rfl rfl
theorem r300_568 : zR d 300 Q 568 (some (.ref c) :: l) st h = zR d 300 Q 569 (some (.ref c) :: l) (.ref c :: st) h := q_in rfl rfl
theorem r300_569 : zR d 300 Q 569 (o0 :: o1 :: o2 :: some (.int x) :: l) st h = zR d 300 Q 570 (o0 :: o1 :: o2 :: some (.int x) :: l) (.int x :: st) h := q_in rfl rfl
theorem r300_570 : zR d 300 Q 570 lv st h = zR d 300 Q 571 lv (.int 1 :: st) h := q_in rfl rfl
theorem r300_571 : zR d 300 Q 571 lv (.int z :: .int x :: st) h = zR d 300 Q 572 lv (.int (x + z) :: st) h := q_in rfl rfl
theorem r300_572 : zR d 300 Q 572 lv (.int x :: .ref c :: st) h = zal c x h (fun w => zR d 300 Q 573 lv (.int w :: st) h) := q_iald rfl
theorem r300_573 : zR d 300 Q 573 lv [.int x0, .ref 60, .int y0] h = zM d 147 [.ref 60, .int x0] h (fun r h' => zR d 300 Q 576 lv (r.toList ++ [.int y0]) h') := (q_clV rfl rfl (Nat.le_of_ble_eq_true rfl)).trans (zand_t ⟨rfl, Nat.le_of_ble_eq_true rfl⟩)
theorem r300_576 : zR d 300 Q 576 lv (.int z :: .int x :: st) h = if x = z then zR d 300 Q 1375 lv st h else zR d 300 Q 579 lv st h := q_if rfl rfl
theorem r300_579 : zR d 300 Q 579 lv st h = zR d 300 Q 580 lv (.int 0 :: st) h := q_in rfl rfl
theorem r300_580f : zR d 300 Q 580 lv [.int 0] h = Q (some (.int 0)) h := q_retz rfl rfl (Or.inr (Or.inl rfl))
theorem r300_580t : zR d 300 Q 580 lv [.int 1] h = Q (some (.int 1)) h := q_retz rfl rfl (Or.inr (Or.inr rfl))
theorem r300_581 : zR d 300 Q 581 (o0 :: some (.ref c) :: l) st h = zR d 300 Q 582 (o0 :: some (.ref c) :: l) (.ref c :: st) h := q_in rfl rfl
theorem r300_582 : zR d 300 Q 582 lv [.ref 0] h = zM d 71 [.ref 0] h (fun r h' => zR d 300 Q 585 lv (r.toList ++ []) h') := (q_clV rfl rfl (Nat.le_of_ble_eq_true rfl)).trans (zand_t ⟨rfl, Nat.le_of_ble_eq_true rfl⟩)
theorem r300_585 : zR d 300 Q 585 (o0 :: o1 :: some (.ref c) :: l) st h = zR d 300 Q 586 (o0 :: o1 :: some (.ref c) :: l) (.ref c :: st) h := q_in rfl rfl
theorem r300_586 : zR d 300 Q 586 lv [.ref 60, .int y0] h = zM d 148 [.ref 60] h (fun r h' => zR d 300 Q 589 lv (r.toList ++ [.int y0]) h') := (q_clV rfl rfl (Nat.le_of_ble_eq_true rfl)).trans (zand_t ⟨rfl, Nat.le_of_ble_eq_true rfl⟩)
theorem r300_589 : zR d 300 Q 589 lv (.int z :: .int x :: st) h = if x = z then zR d 300 Q 1375 lv st h else zR d 300 Q 592 lv st h := q_if rfl rfl
theorem r300_592 : zR d 300 Q 592 lv st h = zR d 300 Q 593 lv (.int 0 :: st) h := q_in rfl rfl
theorem r300_593f : zR d 300 Q 593 lv [.int 0] h = Q (some (.int 0)) h := q_retz rfl rfl (Or.inr (Or.inl rfl))
theorem r300_593t : zR d 300 Q 593 lv [.int 1] h = Q (some (.int 1)) h := q_retz rfl rfl (Or.inr (Or.inr rfl))
theorem r300_594 : zR d 300 Q 594 (o0 :: some (.ref c) :: l) st h = zR d 300 Q 595 (o0 :: some (.ref c) :: l) (.ref c :: st) h := q_in rfl rfl
theorem r300_595 : zR d 300 Q 595 (some (.ref c) :: l) st h = zR d 300 Q 596 (some (.ref c) :: l) (.ref c :: st) h := q_in rfl rfl
theorem r300_596 : zR d 300 Q 596 (o0 :: o1 :: o2 :: some (.int x) :: l) st h = zR d 300 Q 597 (o0 :: o1 :: o2 :: some (.int x) :: l) (.int x :: st) h := q_in rfl rfl
theorem r300_597 : zR d 300 Q 597 lv st h = zR d 300 Q 598 lv (.int 1 :: st) h := q_in rfl rfl
theorem r300_598 : zR d 300 Q 598 lv (.int z :: .int x :: st) h = zR d 300 Q 599 lv (.int (x + z) :: st) h := q_in rfl rfl
theorem r300_599 : zR d 300 Q 599 lv (.int x :: .ref c :: st) h = zal c x h (fun w => zR d 300 Q 600 lv (.int w :: st) h) := q_iald rfl
theorem r300_600 : zR d 300 Q 600 lv [.int x0, .ref 0] h = zM d 72 [.ref 0, .int x0] h (fun r h' => zR d 300 Q 603 lv (r.toList ++ []) h') := (q_clV rfl rfl (Nat.le_of_ble_eq_true rfl)).trans (zand_t ⟨rfl, Nat.le_of_ble_eq_true rfl⟩)
theorem r300_603 : zR d 300 Q 603 (o0 :: o1 :: some (.ref c) :: l) st h = zR d 300 Q 604 (o0 :: o1 :: some (.ref c) :: l) (.ref c :: st) h := q_in rfl rfl
theorem r300_604 : zR d 300 Q 604 (some (.ref c) :: l) st h = zR d 300 Q 605 (some (.ref c) :: l) (.ref c :: st) h := q_in rfl rfl
theorem r300_605 : zR d 300 Q 605 (o0 :: o1 :: o2 :: some (.int x) :: l) st h = zR d 300 Q 606 (o0 :: o1 :: o2 :: some (.int x) :: l) (.int x :: st) h := q_in rfl rfl
theorem r300_606 : zR d 300 Q 606 lv st h = zR d 300 Q 607 lv (.int 1 :: st) h := q_in rfl rfl
theorem r300_607 : zR d 300 Q 607 lv (.int z :: .int x :: st) h = zR d 300 Q 608 lv (.int (x + z) :: st) h := q_in rfl rfl
theorem r300_608 : zR d 300 Q 608 lv (.int x :: .ref c :: st) h = zal c x h (fun w => zR d 300 Q 609 lv (.int w :: st) h) := q_iald rfl
theorem r300_609 : zR d 300 Q 609 lv [.int x0, .ref 60, .int y0] h = zM d 149 [.ref 60, .int x0] h (fun r h' => zR d 300 Q 612 lv (r.toList ++ [.int y0]) h') := (q_clV rfl rfl (Nat.le_of_ble_eq_true rfl)).trans (zand_t ⟨rfl, Nat.le_of_ble_eq_true rfl⟩)
theorem r300_612 : zR d 300 Q 612 lv (.int z :: .int x :: st) h = if x = z then zR d 300 Q 1375 lv st h else zR d 300 Q 615 lv st h := q_if rfl rfl
theorem r300_615 : zR d 300 Q 615 lv st h = zR d 300 Q 616 lv (.int 0 :: st) h := q_in rfl rfl
theorem r300_616f : zR d 300 Q 616 lv [.int 0] h = Q (some (.int 0)) h := q_retz rfl rfl (Or.inr (Or.inl rfl))
theorem r300_616t : zR d 300 Q 616 lv [.int 1] h = Q (some (.int 1)) h := q_retz rfl rfl (Or.inr (Or.inr rfl))
theorem r300_617 : zR d 300 Q 617 (o0 :: some (.ref c) :: l) st h = zR d 300 Q 618 (o0 :: some (.ref c) :: l) (.ref c :: st) h := q_in rfl rfl
theorem r300_618 : zR d 300 Q 618 (some (.ref c) :: l) st h = zR d 300 Q 619 (some (.ref c) :: l) (.ref c :: st) h := q_in rfl rfl
theorem r300_619 : zR d 300 Q 619 (o0 :: o1 :: o2 :: some (.int x) :: l) st h = zR d 300 Q 620 (o0 :: o1 :: o2 :: some (.int x) :: l) (.int x :: st) h := q_in rfl rfl
theorem r300_620 : zR d 300 Q 620 lv st h = zR d 300 Q 621 lv (.int 1 :: st) h := q_in rfl rfl
theorem r300_621 : zR d 300 Q 621 lv (.int z :: .int x :: st) h = zR d 300 Q 622 lv (.int (x + z) :: st) h := q_in rfl rfl
theorem r300_622 : zR d 300 Q 622 lv (.int x :: .ref c :: st) h = zal c x h (fun w => zR d 300 Q 623 lv (.int w :: st) h) := q_iald rfl
theorem r300_623 : zR d 300 Q 623 (some (.ref c) :: l) st h = zR d 300 Q 624 (some (.ref c) :: l) (.ref c :: st) h := q_in rfl rfl
theorem r300_624 : zR d 300 Q 624 (o0 :: o1 :: o2 :: some (.int x) :: l) st h = zR d 300 Q 625 (o0 :: o1 :: o2 :: some (.int x) :: l) (.int x :: st) h := q_in rfl rfl
theorem r300_625 : zR d 300 Q 625 lv st h = zR d 300 Q 626 lv (.int 2 :: st) h := q_in rfl rfl
theorem r300_626 : zR d 300 Q 626 lv (.int z :: .int x :: st) h = zR d 300 Q 627 lv (.int (x + z) :: st) h := q_in rfl rfl
theorem r300_627 : zR d 300 Q 627 lv (.int x :: .ref c :: st) h = zal c x h (fun w => zR d 300 Q 628 lv (.int w :: st) h) := q_iald rfl
theorem r300_628 : zR d 300 Q 628 lv [.int x1, .int x0, .ref 0] h = zM d 73 [.ref 0, .int x0, .int x1] h (fun r h' => zR d 300 Q 631 lv (r.toList ++ []) h') := (q_clV rfl rfl (Nat.le_of_ble_eq_true rfl)).trans (zand_t ⟨rfl, Nat.le_of_ble_eq_true rfl⟩)
theorem r300_631 : zR d 300 Q 631 (o0 :: o1 :: some (.ref c) :: l) st h = zR d 300 Q 632 (o0 :: o1 :: some (.ref c) :: l) (.ref c :: st) h := q_in rfl rfl
theorem r300_632 : zR d 300 Q 632 (some (.ref c) :: l) st h = zR d 300 Q 633 (some (.ref c) :: l) (.ref c :: st) h := q_in rfl rfl
theorem r300_633 : zR d 300 Q 633 (o0 :: o1 :: o2 :: some (.int x) :: l) st h = zR d 300 Q 634 (o0 :: o1 :: o2 :: some (.int x) :: l) (.int x :: st) h := q_in rfl rfl
theorem r300_634 : zR d 300 Q 634 lv st h = zR d 300 Q 635 lv (.int 1 :: st) h := q_in rfl rfl
theorem r300_635 : zR d 300 Q 635 lv (.int z :: .int x :: st) h = zR d 300 Q 636 lv (.int (x + z) :: st) h := q_in rfl rfl
theorem r300_636 : zR d 300 Q 636 lv (.int x :: .ref c :: st) h = zal c x h (fun w => zR d 300 Q 637 lv (.int w :: st) h) := q_iald rfl
theorem r300_637 : zR d 300 Q 637 (some (.ref c) :: l) st h = zR d 300 Q 638 (some (.ref c) :: l) (.ref c :: st) h := q_in rfl rfl
theorem r300_638 : zR d 300 Q 638 (o0 :: o1 :: o2 :: some (.int x) :: l) st h = zR d 300 Q 639 (o0 :: o1 :: o2 :: some (.int x) :: l) (.int x :: st) h := q_in rfl rfl
theorem r300_639 : zR d 300 Q 639 lv st h = zR d 300 Q 640 lv (.int 2 :: st) h := q_in rfl rfl
theorem r300_640 : zR d 300 Q 640 lv (.int z :: .int x :: st) h = zR d 300 Q 641 lv (.int (x + z) :: st) h := q_in rfl rfl
theorem r300_641 : zR d 300 Q 641 lv (.int x :: .ref c :: st) h = zal c x h (fun w => zR d 300 Q 642 lv (.int w :: st) h) := q_iald rfl
theorem r300_642 : zR d 300 Q 642 lv [.int x1, .int x0, .ref 60, .int y0] h = zM d 153 [.ref 60, .int x0, .int x1] h (fun r h' => zR d 300 Q 645 lv (r.toList ++ [.int y0]) h') := (q_clV rfl rfl (Nat.le_of_ble_eq_true rfl)).trans (zand_t ⟨rfl, Nat.le_of_ble_eq_true rfl⟩)
theorem r300_645 : zR d 300 Q 645 lv (.int z :: .int x :: st) h = if x = z then zR d 300 Q 1375 lv st h else zR d 300 Q 648 lv st h := q_if rfl rfl
theorem r300_648 : zR d 300 Q 648 lv st h = zR d 300 Q 649 lv (.int 0 :: st) h := q_in rfl rfl
theorem r300_649f : zR d 300 Q 649 lv [.int 0] h = Q (some (.int 0)) h := q_retz rfl rfl (Or.inr (Or.inl rfl))
theorem r300_649t : zR d 300 Q 649 lv [.int 1] h = Q (some (.int 1)) h := q_retz rfl rfl (Or.inr (Or.inr rfl))
theorem r300_650 : zR d 300 Q 650 (o0 :: some (.ref c) :: l) st h = zR d 300 Q 651 (o0 :: some (.ref c) :: l) (.ref c :: st) h := q_in rfl rfl
theorem r300_651 : zR d 300 Q 651 (some (.ref c) :: l) st h = zR d 300 Q 652 (some (.ref c) :: l) (.ref c :: st) h := q_in rfl rfl
theorem r300_652 : zR d 300 Q 652 (o0 :: o1 :: o2 :: some (.int x) :: l) st h = zR d 300 Q 653 (o0 :: o1 :: o2 :: some (.int x) :: l) (.int x :: st) h := q_in rfl rfl
theorem r300_653 : zR d 300 Q 653 lv st h = zR d 300 Q 654 lv (.int 1 :: st) h := q_in rfl rfl
theorem r300_654 : zR d 300 Q 654 lv (.int z :: .int x :: st) h = zR d 300 Q 655 lv (.int (x + z) :: st) h := q_in rfl rfl
theorem r300_655 : zR d 300 Q 655 lv (.int x :: .ref c :: st) h = zal c x h (fun w => zR d 300 Q 656 lv (.int w :: st) h) := q_iald rfl
theorem r300_656 : zR d 300 Q 656 (some (.ref c) :: l) st h = zR d 300 Q 657 (some (.ref c) :: l) (.ref c :: st) h := q_in rfl rfl
theorem r300_657 : zR d 300 Q 657 (o0 :: o1 :: o2 :: some (.int x) :: l) st h = zR d 300 Q 658 (o0 :: o1 :: o2 :: some (.int x) :: l) (.int x :: st) h := q_in rfl rfl
theorem r300_658 : zR d 300 Q 658 lv st h = zR d 300 Q 659 lv (.int 2 :: st) h := q_in rfl rfl
theorem r300_659 : zR d 300 Q 659 lv (.int z :: .int x :: st) h = zR d 300 Q 660 lv (.int (x + z) :: st) h := q_in rfl rfl
theorem r300_660 : zR d 300 Q 660 lv (.int x :: .ref c :: st) h = zal c x h (fun w => zR d 300 Q 661 lv (.int w :: st) h) := q_iald rfl
theorem r300_661 : zR d 300 Q 661 lv [.int x1, .int x0, .ref 0] h = zM d 74 [.ref 0, .int x0, .int x1] h (fun r h' => zR d 300 Q 664 lv (r.toList ++ []) h') := (q_clV rfl rfl (Nat.le_of_ble_eq_true rfl)).trans (zand_t ⟨rfl, Nat.le_of_ble_eq_true rfl⟩)
theorem r300_664 : zR d 300 Q 664 (o0 :: o1 :: some (.ref c) :: l) st h = zR d 300 Q 665 (o0 :: o1 :: some (.ref c) :: l) (.ref c :: st) h := q_in rfl rfl
theorem r300_665 : zR d 300 Q 665 (some (.ref c) :: l) st h = zR d 300 Q 666 (some (.ref c) :: l) (.ref c :: st) h := q_in rfl rfl
theorem r300_666 : zR d 300 Q 666 (o0 :: o1 :: o2 :: some (.int x) :: l) st h = zR d 300 Q 667 (o0 :: o1 :: o2 :: some (.int x) :: l) (.int x :: st) h := q_in rfl rfl
theorem r300_667 : zR d 300 Q 667 lv st h = zR d 300 Q 668 lv (.int 1 :: st) h := q_in rfl rfl
theorem r300_668 : zR d 300 Q 668 lv (.int z :: .int x :: st) h = zR d 300 Q 669 lv (.int (x + z) :: st) h := q_in rfl rfl
theorem r300_669 : zR d 300 Q 669 lv (.int x :: .ref c :: st) h = zal c x h (fun w => zR d 300 Q 670 lv (.int w :: st) h) := q_iald rfl
theorem r300_670 : zR d 300 Q 670 (some (.ref c) :: l) st h = zR d 300 Q 671 (some (.ref c) :: l) (.ref c :: st) h := q_in rfl rfl
theorem r300_671 : zR d 300 Q 671 (o0 :: o1 :: o2 :: some (.int x) :: l) st h = zR d 300 Q 672 (o0 :: o1 :: o2 :: some (.int x) :: l) (.int x :: st) h := q_in rfl rfl
theorem r300_672 : zR d 300 Q 672 lv st h = zR d 300 Q 673 lv (.int 2 :: st) h := q_in rfl rfl
theorem r300_673 : zR d 300 Q 673 lv (.int z :: .int x :: st) h = zR d 300 Q 674 lv (.int (x + z) :: st) h := q_in rfl rfl
theorem r300_674 : zR d 300 Q 674 lv (.int x :: .ref c :: st) h = zal c x h (fun w => zR d 300 Q 675 lv (.int w :: st) h) := q_iald rfl
theorem r300_675 : zR d 300 Q 675 lv [.int x1, .int x0, .ref 60, .int y0] h = zM d 154 [.ref 60, .int x0, .int x1] h (fun r h' => zR d 300 Q 678 lv (r.toList ++ [.int y0]) h') := (q_clV rfl rfl (Nat.le_of_ble_eq_true rfl)).trans (zand_t ⟨rfl, Nat.le_of_ble_eq_true rfl⟩)
theorem r300_678 : zR d 300 Q 678 lv (.int z :: .int x :: st) h = if x = z then zR d 300 Q 1375 lv st h else zR d 300 Q 681 lv st h := q_if rfl rfl
theorem r300_681 : zR d 300 Q 681 lv st h = zR d 300 Q 682 lv (.int 0 :: st) h := q_in rfl rfl
theorem r300_682f : zR d 300 Q 682 lv [.int 0] h = Q (some (.int 0)) h := q_retz rfl rfl (Or.inr (Or.inl rfl))
theorem r300_682t : zR d 300 Q 682 lv [.int 1] h = Q (some (.int 1)) h := q_retz rfl rfl (Or.inr (Or.inr rfl))
theorem r300_683 : zR d 300 Q 683 (o0 :: some (.ref c) :: l) st h = zR d 300 Q 684 (o0 :: some (.ref c) :: l) (.ref c :: st) h := q_in rfl rfl
theorem r300_684 : zR d 300 Q 684 (some (.ref c) :: l) st h = zR d 300 Q 685 (some (.ref c) :: l) (.ref c :: st) h := q_in rfl rfl
theorem r300_685 : zR d 300 Q 685 (o0 :: o1 :: o2 :: some (.int x) :: l) st h = zR d 300 Q 686 (o0 :: o1 :: o2 :: some (.int x) :: l) (.int x :: st) h := q_in rfl rfl
theorem r300_686 : zR d 300 Q 686 lv st h = zR d 300 Q 687 lv (.int 1 :: st) h := q_in rfl rfl
theorem r300_687 : zR d 300 Q 687 lv (.int z :: .int x :: st) h = zR d 300 Q 688 lv (.int (x + z) :: st) h := q_in rfl rfl
theorem r300_688 : zR d 300 Q 688 lv (.int x :: .ref c :: st) h = zal c x h (fun w => zR d 300 Q 689 lv (.int w :: st) h) := q_iald rfl
theorem r300_689 : zR d 300 Q 689 (some (.ref c) :: l) st h = zR d 300 Q 690 (some (.ref c) :: l) (.ref c :: st) h := q_in rfl rfl
theorem r300_690 : zR d 300 Q 690 (o0 :: o1 :: o2 :: some (.int x) :: l) st h = zR d 300 Q 691 (o0 :: o1 :: o2 :: some (.int x) :: l) (.int x :: st) h := q_in rfl rfl
theorem r300_691 : zR d 300 Q 691 lv st h = zR d 300 Q 692 lv (.int 2 :: st) h := q_in rfl rfl
theorem r300_692 : zR d 300 Q 692 lv (.int z :: .int x :: st) h = zR d 300 Q 693 lv (.int (x + z) :: st) h := q_in rfl rfl
theorem r300_693 : zR d 300 Q 693 lv (.int x :: .ref c :: st) h = zal c x h (fun w => zR d 300 Q 694 lv (.int w :: st) h) := q_iald rfl
theorem r300_694 : zR d 300 Q 694 lv [.int x1, .int x0, .ref 0] h = zM d 75 [.ref 0, .int x0, .int x1] h (fun r h' => zR d 300 Q 697 lv (r.toList ++ []) h') := (q_clV rfl rfl (Nat.le_of_ble_eq_true rfl)).trans (zand_t ⟨rfl, Nat.le_of_ble_eq_true rfl⟩)
theorem r300_697 : zR d 300 Q 697 (o0 :: o1 :: some (.ref c) :: l) st h = zR d 300 Q 698 (o0 :: o1 :: some (.ref c) :: l) (.ref c :: st) h := q_in rfl rfl
theorem r300_698 : zR d 300 Q 698 (some (.ref c) :: l) st h = zR d 300 Q 699 (some (.ref c) :: l) (.ref c :: st) h := q_in rfl rfl
theorem r300_699 : zR d 300 Q 699 (o0 :: o1 :: o2 :: some (.int x) :: l) st h = zR d 300 Q 700 (o0 :: o1 :: o2 :: some (.int x) :: l) (.int x :: st) h := q_in rfl rfl
theorem r300_700 : zR d 300 Q 700 lv st h = zR d 300 Q 701 lv (.int 1 :: st) h := q_in rfl rfl
theorem r300_701 : zR d 300 Q 701 lv (.int z :: .int x :: st) h = zR d 300 Q 702 lv (.int (x + z) :: st) h := q_in rfl rfl
theorem r300_702 : zR d 300 Q 702 lv (.int x :: .ref c :: st) h = zal c x h (fun w => zR d 300 Q 703 lv (.int w :: st) h) := q_iald rfl
theorem r300_703 : zR d 300 Q 703 (some (.ref c) :: l) st h = zR d 300 Q 704 (some (.ref c) :: l) (.ref c :: st) h := q_in rfl rfl
theorem r300_704 : zR d 300 Q 704 (o0 :: o1 :: o2 :: some (.int x) :: l) st h = zR d 300 Q 705 (o0 :: o1 :: o2 :: some (.int x) :: l) (.int x :: st) h := q_in rfl rfl
theorem r300_705 : zR d 300 Q 705 lv st h = zR d 300 Q 706 lv (.int 2 :: st) h := q_in rfl rfl
theorem r300_706 : zR d 300 Q 706 lv (.int z :: .int x :: st) h = zR d 300 Q 707 lv (.int (x + z) :: st) h := q_in rfl rfl
theorem r300_707 : zR d 300 Q 707 lv (.int x :: .ref c :: st) h = zal c x h (fun w => zR d 300 Q 708 lv (.int w :: st) h) := q_iald rfl
theorem r300_708 : zR d 300 Q 708 lv [.int x1, .int x0, .ref 60, .int y0] h = zM d 155 [.ref 60, .int x0, .int x1] h (fun r h' => zR d 300 Q 711 lv (r.toList ++ [.int y0]) h') := (q_clV rfl rfl (Nat.le_of_ble_eq_true rfl)).trans (zand_t ⟨rfl, Nat.le_of_ble_eq_true rfl⟩)
theorem r300_711 : zR d 300 Q 711 lv (.int z :: .int x :: st) h = if x = z then zR d 300 Q 1375 lv st h else zR d 300 Q 714 lv st h := q_if rfl rfl
theorem r300_714 : zR d 300 Q 714 lv st h = zR d 300 Q 715 lv (.int 0 :: st) h := q_in rfl rfl
theorem r300_715f : zR d 300 Q 715 lv [.int 0] h = Q (some (.int 0)) h := q_retz rfl rfl (Or.inr (Or.inl rfl))
theorem r300_715t : zR d 300 Q 715 lv [.int 1] h = Q (some (.int 1)) h := q_retz rfl rfl (Or.inr (Or.inr rfl))
theorem r300_716 : zR d 300 Q 716 (o0 :: some (.ref c) :: l) st h = zR d 300 Q 717 (o0 :: some (.ref c) :: l) (.ref c :: st) h := q_in rfl rfl
theorem r300_717 : zR d 300 Q 717 (some (.ref c) :: l) st h = zR d 300 Q 718 (some (.ref c) :: l) (.ref c :: st) h := q_in rfl rfl
theorem r300_718 : zR d 300 Q 718 (o0 :: o1 :: o2 :: some (.int x) :: l) st h = zR d 300 Q 719 (o0 :: o1 :: o2 :: some (.int x) :: l) (.int x :: st) h := q_in rfl rfl
theorem r300_719 : zR d 300 Q 719 lv st h = zR d 300 Q 720 lv (.int 1 :: st) h := q_in rfl rfl
theorem r300_720 : zR d 300 Q 720 lv (.int z :: .int x :: st) h = zR d 300 Q 721 lv (.int (x + z) :: st) h := q_in rfl rfl
theorem r300_721 : zR d 300 Q 721 lv (.int x :: .ref c :: st) h = zal c x h (fun w => zR d 300 Q 722 lv (.int w :: st) h) := q_iald rfl
theorem r300_722 : zR d 300 Q 722 (some (.ref c) :: l) st h = zR d 300 Q 723 (some (.ref c) :: l) (.ref c :: st) h := q_in rfl rfl
theorem r300_723 : zR d 300 Q 723 (o0 :: o1 :: o2 :: some (.int x) :: l) st h = zR d 300 Q 724 (o0 :: o1 :: o2 :: some (.int x) :: l) (.int x :: st) h := q_in rfl rfl
theorem r300_724 : zR d 300 Q 724 lv st h = zR d 300 Q 725 lv (.int 2 :: st) h := q_in rfl rfl
theorem r300_725 : zR d 300 Q 725 lv (.int z :: .int x :: st) h = zR d 300 Q 726 lv (.int (x + z) :: st) h := q_in rfl rfl
theorem r300_726 : zR d 300 Q 726 lv (.int x :: .ref c :: st) h = zal c x h (fun w => zR d 300 Q 727 lv (.int w :: st) h) := q_iald rfl
theorem r300_727 : zR d 300 Q 727 lv [.int x1, .int x0, .ref 0] h = zM d 76 [.ref 0, .int x0, .int x1] h (fun r h' => zR d 300 Q 730 lv (r.toList ++ []) h') := (q_clV rfl rfl (Nat.le_of_ble_eq_true rfl)).trans (zand_t ⟨rfl, Nat.le_of_ble_eq_true rfl⟩)
theorem r300_730 : zR d 300 Q 730 (o0 :: o1 :: some (.ref c) :: l) st h = zR d 300 Q 731 (o0 :: o1 :: some (.ref c) :: l) (.ref c :: st) h := q_in rfl rfl
theorem r300_731 : zR d 300 Q 731 (some (.ref c) :: l) st h = zR d 300 Q 732 (some (.ref c) :: l) (.ref c :: st) h := q_in rfl rfl
theorem r300_732 : zR d 300 Q 732 (o0 :: o1 :: o2 :: some (.int x) :: l) st h = zR d 300 Q 733 (o0 :: o1 :: o2 :: some (.int x) :: l) (.int x :: st) h := q_in rfl rfl
theorem r300_733 : zR d 300 Q 733 lv st h = zR d 300 Q 734 lv (.int 1 :: st) h := q_in rfl rfl
theorem r300_734 : zR d 300 Q 734 lv (.int z :: .int x :: st) h = zR d 300 Q 735 lv (.int (x + z) :: st) h := q_in rfl rfl
theorem r300_735 : zR d 300 Q 735 lv (.int x :: .ref c :: st) h = zal c x h (fun w => zR d 300 Q 736 lv (.int w :: st) h) := q_iald rfl
theorem r300_736 : zR d 300 Q 736 (some (.ref c) :: l) st h = zR d 300 Q 737 (some (.ref c) :: l) (.ref c :: st) h := q_in rfl rfl
theorem r300_737 : zR d 300 Q 737 (o0 :: o1 :: o2 :: some (.int x) :: l) st h = zR d 300 Q 738 (o0 :: o1 :: o2 :: some (.int x) :: l) (.int x :: st) h := q_in rfl rfl
theorem r300_738 : zR d 300 Q 738 lv st h = zR d 300 Q 739 lv (.int 2 :: st) h := q_in rfl rfl
theorem r300_739 : zR d 300 Q 739 lv (.int z :: .int x :: st) h = zR d 300 Q 740 lv (.int (x + z) :: st) h := q_in rfl rfl
theorem r300_740 : zR d 300 Q 740 lv (.int x :: .ref c :: st) h = zal c x h (fun w => zR d 300 Q 741 lv (.int w :: st) h) := q_iald rfl
theorem r300_741 : zR d 300 Q 741 lv [.int x1, .int x0, .ref 60, .int y0] h = zM d 156 [.ref 60, .int x0, .int x1] h (fun r h' => zR d 300 Q 744 lv (r.toList ++ [.int y0]) h') := (q_clV rfl rfl (Nat.le_of_ble_eq_true rfl)).trans (zand_t ⟨rfl, Nat.le_of_ble_eq_true rfl⟩)
theorem r300_744 : zR d 300 Q 744 lv (.int z :: .int x :: st) h = if x = z then zR d 300 Q 1375 lv st h else zR d 300 Q 747 lv st h := q_if rfl rfl
theorem r300_747 : zR d 300 Q 747 lv st h = zR d 300 Q 748 lv (.int 0 :: st) h := q_in rfl rfl
theorem r300_748f : zR d 300 Q 748 lv [.int 0] h = Q (some (.int 0)) h := q_retz rfl rfl (Or.inr (Or.inl rfl))
theorem r300_748t : zR d 300 Q 748 lv [.int 1] h = Q (some (.int 1)) h := q_retz rfl rfl (Or.inr (Or.inr rfl))
theorem r300_749 : zR d 300 Q 749 (o0 :: some (.ref c) :: l) st h = zR d 300 Q 750 (o0 :: some (.ref c) :: l) (.ref c :: st) h := q_in rfl rfl
theorem r300_750 : zR d 300 Q 750 lv [.ref 0] h = zM d 77 [.ref 0] h (fun r h' => zR d 300 Q 753 lv (r.toList ++ []) h') := (q_clV rfl rfl (Nat.le_of_ble_eq_true rfl)).trans (zand_t ⟨rfl, Nat.le_of_ble_eq_true rfl⟩)
theorem r300_753 : zR d 300 Q 753 (o0 :: o1 :: some (.ref c) :: l) st h = zR d 300 Q 754 (o0 :: o1 :: some (.ref c) :: l) (.ref c :: st) h := q_in rfl rfl
theorem r300_754 : zR d 300 Q 754 lv [.ref 60, .int y0] h = zM d 158 [.ref 60] h (fun r h' => zR d 300 Q 757 lv (r.toList ++ [.int y0]) h') := (q_clV rfl rfl (Nat.le_of_ble_eq_true rfl)).trans (zand_t ⟨rfl, Nat.le_of_ble_eq_true rfl⟩)
theorem r300_757 : zR d 300 Q 757 lv (.int z :: .int x :: st) h = if x = z then zR d 300 Q 1375 lv st h else zR d 300 Q 760 lv st h := q_if rfl rfl
theorem r300_760 : zR d 300 Q 760 lv st h = zR d 300 Q 761 lv (.int 0 :: st) h := q_in rfl rfl
theorem r300_761f : zR d 300 Q 761 lv [.int 0] h = Q (some (.int 0)) h := q_retz rfl rfl (Or.inr (Or.inl rfl))
theorem r300_761t : zR d 300 Q 761 lv [.int 1] h = Q (some (.int 1)) h := q_retz rfl rfl (Or.inr (Or.inr rfl))
theorem r300_762 : zR d 300 Q 762 (o0 :: some (.ref c) :: l) st h = zR d 300 Q 763 (o0 :: some (.ref c) :: l) (.ref c :: st) h := q_in rfl rfl
theorem r300_763 : zR d 300 Q 763 (some (.ref c) :: l) st h = zR d 300 Q 764 (some (.ref c) :: l) (.ref c :: st) h := q_in rfl rfl
theorem r300_764 : zR d 300 Q 764 (o0 :: o1 :: o2 :: some (.int x) :: l) st h = zR d 300 Q 765 (o0 :: o1 :: o2 :: some (.int x) :: l) (.int x :: st) h := q_in rfl rfl
theorem r300_765 : zR d 300 Q 765 lv st h = zR d 300 Q 766 lv (.int 1 :: st) h := q_in rfl rfl
theorem r300_766 : zR d 300 Q 766 lv (.int z :: .int x :: st) h = zR d 300 Q 767 lv (.int (x + z) :: st) h := q_in rfl rfl
theorem r300_767 : zR d 300 Q 767 lv (.int x :: .ref c :: st) h = zal c x h (fun w => zR d 300 Q 768 lv (.int w :: st) h) := q_iald rfl
theorem r300_768 : zR d 300 Q 768 (some (.ref c) :: l) st h = zR d 300 Q 769 (some (.ref c) :: l) (.ref c :: st) h := q_in rfl rfl
theorem r300_769 : zR d 300 Q 769 (o0 :: o1 :: o2 :: some (.int x) :: l) st h = zR d 300 Q 770 (o0 :: o1 :: o2 :: some (.int x) :: l) (.int x :: st) h := q_in rfl rfl
theorem r300_770 : zR d 300 Q 770 lv st h = zR d 300 Q 771 lv (.int 2 :: st) h := q_in rfl rfl
theorem r300_771 : zR d 300 Q 771 lv (.int z :: .int x :: st) h = zR d 300 Q 772 lv (.int (x + z) :: st) h := q_in rfl rfl
theorem r300_772 : zR d 300 Q 772 lv (.int x :: .ref c :: st) h = zal c x h (fun w => zR d 300 Q 773 lv (.int w :: st) h) := q_iald rfl
theorem r300_773 : zR d 300 Q 773 lv [.int x1, .int x0, .ref 0] h = zM d 78 [.ref 0, .int x0, .int x1] h (fun r h' => zR d 300 Q 776 lv (r.toList ++ []) h') := (q_clV rfl rfl (Nat.le_of_ble_eq_true rfl)).trans (zand_t ⟨rfl, Nat.le_of_ble_eq_true rfl⟩)
theorem r300_776 : zR d 300 Q 776 (o0 :: o1 :: some (.ref c) :: l) st h = zR d 300 Q 777 (o0 :: o1 :: some (.ref c) :: l) (.ref c :: st) h := q_in rfl rfl
theorem r300_777 : zR d 300 Q 777 (some (.ref c) :: l) st h = zR d 300 Q 778 (some (.ref c) :: l) (.ref c :: st) h := q_in rfl rfl
theorem r300_778 : zR d 300 Q 778 (o0 :: o1 :: o2 :: some (.int x) :: l) st h = zR d 300 Q 779 (o0 :: o1 :: o2 :: some (.int x) :: l) (.int x :: st) h := q_in rfl rfl
theorem r300_779 : zR d 300 Q 779 lv st h = zR d 300 Q 780 lv (.int 1 :: st) h := q_in rfl rfl
theorem r300_780 : zR d 300 Q 780 lv (.int z :: .int x :: st) h = zR d 300 Q 781 lv (.int (x + z) :: st) h := q_in rfl rfl
theorem r300_781 : zR d 300 Q 781 lv (.int x :: .ref c :: st) h = zal c x h (fun w => zR d 300 Q 782 lv (.int w :: st) h) := q_iald rfl
theorem r300_782 : zR d 300 Q 782 (some (.ref c) :: l) st h = zR d 300 Q 783 (some (.ref c) :: l) (.ref c :: st) h := q_in rfl rfl
theorem r300_783 : zR d 300 Q 783 (o0 :: o1 :: o2 :: some (.int x) :: l) st h = zR d 300 Q 784 (o0 :: o1 :: o2 :: some (.int x) :: l) (.int x :: st) h := q_in rfl rfl
theorem r300_784 : zR d 300 Q 784 lv st h = zR d 300 Q 785 lv (.int 2 :: st) h := q_in rfl rfl
theorem r300_785 : zR d 300 Q 785 lv (.int z :: .int x :: st) h = zR d 300 Q 786 lv (.int (x + z) :: st) h := q_in rfl rfl
theorem r300_786 : zR d 300 Q 786 lv (.int x :: .ref c :: st) h = zal c x h (fun w => zR d 300 Q 787 lv (.int w :: st) h) := q_iald rfl
theorem r300_787 : zR d 300 Q 787 lv [.int x1, .int x0, .ref 60, .int y0] h = zM d 188 [.ref 60, .int x0, .int x1] h (fun r h' => zR d 300 Q 790 lv (r.toList ++ [.int y0]) h') := (q_clV rfl rfl (Nat.le_of_ble_eq_true rfl)).trans (zand_t ⟨rfl, Nat.le_of_ble_eq_true rfl⟩)
theorem r300_790 : zR d 300 Q 790 lv (.int z :: .int x :: st) h = if x = z then zR d 300 Q 1375 lv st h else zR d 300 Q 793 lv st h := q_if rfl rfl
theorem r300_793 : zR d 300 Q 793 lv st h = zR d 300 Q 794 lv (.int 0 :: st) h := q_in rfl rfl
theorem r300_794f : zR d 300 Q 794 lv [.int 0] h = Q (some (.int 0)) h := q_retz rfl rfl (Or.inr (Or.inl rfl))
theorem r300_794t : zR d 300 Q 794 lv [.int 1] h = Q (some (.int 1)) h := q_retz rfl rfl (Or.inr (Or.inr rfl))
theorem r300_795 : zR d 300 Q 795 (o0 :: some (.ref c) :: l) st h = zR d 300 Q 796 (o0 :: some (.ref c) :: l) (.ref c :: st) h := q_in rfl rfl
theorem r300_796 : zR d 300 Q 796 lv [.ref 0] h = zM d 80 [.ref 0] h (fun r h' => zR d 300 Q 799 lv (r.toList ++ []) h') := (q_clV rfl rfl (Nat.le_of_ble_eq_true rfl)).trans (zand_t ⟨rfl, Nat.le_of_ble_eq_true rfl⟩)
theorem r300_799 : zR d 300 Q 799 (o0 :: o1 :: some (.ref c) :: l) st h = zR d 300 Q 800 (o0 :: o1 :: some (.ref c) :: l) (.ref c :: st) h := q_in rfl rfl
theorem r300_800 : zR d 300 Q 800 lv [.ref 60, .int y0] h = zM d 159 [.ref 60] h (fun r h' => zR d 300 Q 803 lv (r.toList ++ [.int y0]) h') := (q_clV rfl rfl (Nat.le_of_ble_eq_true rfl)).trans (zand_t ⟨rfl, Nat.le_of_ble_eq_true rfl⟩)
theorem r300_803 : zR d 300 Q 803 lv (.int z :: .int x :: st) h = if x = z then zR d 300 Q 1375 lv st h else zR d 300 Q 806 lv st h := q_if rfl rfl
theorem r300_806 : zR d 300 Q 806 lv st h = zR d 300 Q 807 lv (.int 0 :: st) h := q_in rfl rfl
theorem r300_807f : zR d 300 Q 807 lv [.int 0] h = Q (some (.int 0)) h := q_retz rfl rfl (Or.inr (Or.inl rfl))
theorem r300_807t : zR d 300 Q 807 lv [.int 1] h = Q (some (.int 1)) h := q_retz rfl rfl (Or.inr (Or.inr rfl))
theorem r300_808 : zR d 300 Q 808 (o0 :: some (.ref c) :: l) st h = zR d 300 Q 809 (o0 :: some (.ref c) :: l) (.ref c :: st) h := q_in rfl rfl
theorem r300_809 : zR d 300 Q 809 (some (.ref c) :: l) st h = zR d 300 Q 810 (some (.ref c) :: l) (.ref c :: st) h := q_in rfl rfl
theorem r300_810 : zR d 300 Q 810 (o0 :: o1 :: o2 :: some (.int x) :: l) st h = zR d 300 Q 811 (o0 :: o1 :: o2 :: some (.int x) :: l) (.int x :: st) h := q_in rfl rfl
theorem r300_811 : zR d 300 Q 811 lv st h = zR d 300 Q 812 lv (.int 1 :: st) h := q_in rfl rfl
theorem r300_812 : zR d 300 Q 812 lv (.int z :: .int x :: st) h = zR d 300 Q 813 lv (.int (x + z) :: st) h := q_in rfl rfl
theorem r300_813 : zR d 300 Q 813 lv (.int x :: .ref c :: st) h = zal c x h (fun w => zR d 300 Q 814 lv (.int w :: st) h) := q_iald rfl
theorem r300_814 : zR d 300 Q 814 (some (.ref c) :: l) st h = zR d 300 Q 815 (some (.ref c) :: l) (.ref c :: st) h := q_in rfl rfl
theorem r300_815 : zR d 300 Q 815 (o0 :: o1 :: o2 :: some (.int x) :: l) st h = zR d 300 Q 816 (o0 :: o1 :: o2 :: some (.int x) :: l) (.int x :: st) h := q_in rfl rfl
theorem r300_816 : zR d 300 Q 816 lv st h = zR d 300 Q 817 lv (.int 2 :: st) h := q_in rfl rfl
theorem r300_817 : zR d 300 Q 817 lv (.int z :: .int x :: st) h = zR d 300 Q 818 lv (.int (x + z) :: st) h := q_in rfl rfl
theorem r300_818 : zR d 300 Q 818 lv (.int x :: .ref c :: st) h = zal c x h (fun w => zR d 300 Q 819 lv (.int w :: st) h) := q_iald rfl
theorem r300_819 : zR d 300 Q 819 (some (.ref c) :: l) st h = zR d 300 Q 820 (some (.ref c) :: l) (.ref c :: st) h := q_in rfl rfl
theorem r300_820 : zR d 300 Q 820 (o0 :: o1 :: o2 :: some (.int x) :: l) st h = zR d 300 Q 821 (o0 :: o1 :: o2 :: some (.int x) :: l) (.int x :: st) h := q_in rfl rfl
theorem r300_821 : zR d 300 Q 821 lv st h = zR d 300 Q 822 lv (.int 3 :: st) h := q_in rfl rfl
theorem r300_822 : zR d 300 Q 822 lv (.int z :: .int x :: st) h = zR d 300 Q 823 lv (.int (x + z) :: st) h := q_in rfl rfl
theorem r300_823 : zR d 300 Q 823 lv (.int x :: .ref c :: st) h = zal c x h (fun w => zR d 300 Q 824 lv (.int w :: st) h) := q_iald rfl
theorem r300_824 : zR d 300 Q 824 lv [.int x2, .int x1, .int x0, .ref 0] h = zM d 81 [.ref 0, .int x0, .int x1, .int x2] h (fun r h' => zR d 300 Q 827 lv (r.toList ++ []) h') := (q_clV rfl rfl (Nat.le_of_ble_eq_true rfl)).trans (zand_t ⟨rfl, Nat.le_of_ble_eq_true rfl⟩)
theorem r300_827 : zR d 300 Q 827 (o0 :: o1 :: some (.ref c) :: l) st h = zR d 300 Q 828 (o0 :: o1 :: some (.ref c) :: l) (.ref c :: st) h := q_in rfl rfl
theorem r300_828 : zR d 300 Q 828 (some (.ref c) :: l) st h = zR d 300 Q 829 (some (.ref c) :: l) (.ref c :: st) h := q_in rfl rfl
theorem r300_829 : zR d 300 Q 829 (o0 :: o1 :: o2 :: some (.int x) :: l) st h = zR d 300 Q 830 (o0 :: o1 :: o2 :: some (.int x) :: l) (.int x :: st) h := q_in rfl rfl
theorem r300_830 : zR d 300 Q 830 lv st h = zR d 300 Q 831 lv (.int 1 :: st) h := q_in rfl rfl
theorem r300_831 : zR d 300 Q 831 lv (.int z :: .int x :: st) h = zR d 300 Q 832 lv (.int (x + z) :: st) h := q_in rfl rfl
theorem r300_832 : zR d 300 Q 832 lv (.int x :: .ref c :: st) h = zal c x h (fun w => zR d 300 Q 833 lv (.int w :: st) h) := q_iald rfl
theorem r300_833 : zR d 300 Q 833 (some (.ref c) :: l) st h = zR d 300 Q 834 (some (.ref c) :: l) (.ref c :: st) h := q_in rfl rfl
theorem r300_834 : zR d 300 Q 834 (o0 :: o1 :: o2 :: some (.int x) :: l) st h = zR d 300 Q 835 (o0 :: o1 :: o2 :: some (.int x) :: l) (.int x :: st) h := q_in rfl rfl
theorem r300_835 : zR d 300 Q 835 lv st h = zR d 300 Q 836 lv (.int 2 :: st) h := q_in rfl rfl
theorem r300_836 : zR d 300 Q 836 lv (.int z :: .int x :: st) h = zR d 300 Q 837 lv (.int (x + z) :: st) h := q_in rfl rfl
theorem r300_837 : zR d 300 Q 837 lv (.int x :: .ref c :: st) h = zal c x h (fun w => zR d 300 Q 838 lv (.int w :: st) h) := q_iald rfl
theorem r300_838 : zR d 300 Q 838 (some (.ref c) :: l) st h = zR d 300 Q 839 (some (.ref c) :: l) (.ref c :: st) h := q_in rfl rfl
theorem r300_839 : zR d 300 Q 839 (o0 :: o1 :: o2 :: some (.int x) :: l) st h = zR d 300 Q 840 (o0 :: o1 :: o2 :: some (.int x) :: l) (.int x :: st) h := q_in rfl rfl
theorem r300_840 : zR d 300 Q 840 lv st h = zR d 300 Q 841 lv (.int 3 :: st) h := q_in rfl rfl
theorem r300_841 : zR d 300 Q 841 lv (.int z :: .int x :: st) h = zR d 300 Q 842 lv (.int (x + z) :: st) h := q_in rfl rfl
theorem r300_842 : zR d 300 Q 842 lv (.int x :: .ref c :: st) h = zal c x h (fun w => zR d 300 Q 843 lv (.int w :: st) h) := q_iald rfl
theorem r300_843 : zR d 300 Q 843 lv [.int x2, .int x1, .int x0, .ref 60, .int y0] h = zM d 160 [.ref 60, .int x0, .int x1, .int x2] h (fun r h' => zR d 300 Q 846 lv (r.toList ++ [.int y0]) h') := (q_clV rfl rfl (Nat.le_of_ble_eq_true rfl)).trans (zand_t ⟨rfl, Nat.le_of_ble_eq_true rfl⟩)
theorem r300_846 : zR d 300 Q 846 lv (.int z :: .int x :: st) h = if x = z then zR d 300 Q 1375 lv st h else zR d 300 Q 849 lv st h := q_if rfl rfl
theorem r300_849 : zR d 300 Q 849 lv st h = zR d 300 Q 850 lv (.int 0 :: st) h := q_in rfl rfl
theorem r300_850f : zR d 300 Q 850 lv [.int 0] h = Q (some (.int 0)) h := q_retz rfl rfl (Or.inr (Or.inl rfl))
theorem r300_850t : zR d 300 Q 850 lv [.int 1] h = Q (some (.int 1)) h := q_retz rfl rfl (Or.inr (Or.inr rfl))
theorem r300_851 : zR d 300 Q 851 (o0 :: some (.ref c) :: l) st h = zR d 300 Q 852 (o0 :: some (.ref c) :: l) (.ref c :: st) h := q_in rfl rfl
theorem r300_852 : zR d 300 Q 852 (some (.ref c) :: l) st h = zR d 300 Q 853 (some (.ref c) :: l) (.ref c :: st) h := q_in rfl rfl
theorem r300_853 : zR d 300 Q 853 (o0 :: o1 :: o2 :: some (.int x) :: l) st h = zR d 300 Q 854 (o0 :: o1 :: o2 :: some (.int x) :: l) (.int x :: st) h := q_in rfl rfl
theorem r300_854 : zR d 300 Q 854 lv st h = zR d 300 Q 855 lv (.int 1 :: st) h := q_in rfl rfl
theorem r300_855 : zR d 300 Q 855 lv (.int z :: .int x :: st) h = zR d 300 Q 856 lv (.int (x + z) :: st) h := q_in rfl rfl
theorem r300_856 : zR d 300 Q 856 lv (.int x :: .ref c :: st) h = zal c x h (fun w => zR d 300 Q 857 lv (.int w :: st) h) := q_iald rfl
theorem r300_857 : zR d 300 Q 857 lv [.int x0, .ref 0] h = zM d 82 [.ref 0, .int x0] h (fun r h' => zR d 300 Q 860 lv (r.toList ++ []) h') := (q_clV rfl rfl (Nat.le_of_ble_eq_true rfl)).trans (zand_t ⟨rfl, Nat.le_of_ble_eq_true rfl⟩)
theorem r300_860 : zR d 300 Q 860 (o0 :: o1 :: some (.ref c) :: l) st h = zR d 300 Q 861 (o0 :: o1 :: some (.ref c) :: l) (.ref c :: st) h := q_in rfl rfl
theorem r300_861 : zR d 300 Q 861 (some (.ref c) :: l) st h = zR d 300 Q 862 (some (.ref c) :: l) (.ref c :: st) h := q_in rfl rfl
theorem r300_862 : zR d 300 Q 862 (o0 :: o1 :: o2 :: some (.int x) :: l) st h = zR d 300 Q 863 (o0 :: o1 :: o2 :: some (.int x) :: l) (.int x :: st) h := q_in rfl rfl
theorem r300_863 : zR d 300 Q 863 lv st h = zR d 300 Q 864 lv (.int 1 :: st) h := q_in rfl rfl
theorem r300_864 : zR d 300 Q 864 lv (.int z :: .int x :: st) h = zR d 300 Q 865 lv (.int (x + z) :: st) h := q_in rfl rfl
theorem r300_865 : zR d 300 Q 865 lv (.int x :: .ref c :: st) h = zal c x h (fun w => zR d 300 Q 866 lv (.int w :: st) h) := q_iald rfl
theorem r300_866 : zR d 300 Q 866 lv [.int x0, .ref 60, .int y0] h = zM d 161 [.ref 60, .int x0] h (fun r h' => zR d 300 Q 869 lv (r.toList ++ [.int y0]) h') := (q_clV rfl rfl (Nat.le_of_ble_eq_true rfl)).trans (zand_t ⟨rfl, Nat.le_of_ble_eq_true rfl⟩)
theorem r300_869 : zR d 300 Q 869 lv (.int z :: .int x :: st) h = if x = z then zR d 300 Q 1375 lv st h else zR d 300 Q 872 lv st h := q_if rfl rfl
theorem r300_872 : zR d 300 Q 872 lv st h = zR d 300 Q 873 lv (.int 0 :: st) h := q_in rfl rfl
theorem r300_873f : zR d 300 Q 873 lv [.int 0] h = Q (some (.int 0)) h := q_retz rfl rfl (Or.inr (Or.inl rfl))
theorem r300_873t : zR d 300 Q 873 lv [.int 1] h = Q (some (.int 1)) h := q_retz rfl rfl (Or.inr (Or.inr rfl))
theorem r300_874 : zR d 300 Q 874 (o0 :: some (.ref c) :: l) st h = zR d 300 Q 875 (o0 :: some (.ref c) :: l) (.ref c :: st) h := q_in rfl rfl
theorem r300_875 : zR d 300 Q 875 lv [.ref 0] h = zM d 83 [.ref 0] h (fun r h' => zR d 300 Q 878 lv (r.toList ++ []) h') := (q_clV rfl rfl (Nat.le_of_ble_eq_true rfl)).trans (zand_t ⟨rfl, Nat.le_of_ble_eq_true rfl⟩)
theorem r300_878 : zR d 300 Q 878 (o0 :: o1 :: some (.ref c) :: l) st h = zR d 300 Q 879 (o0 :: o1 :: some (.ref c) :: l) (.ref c :: st) h := q_in rfl rfl
theorem r300_879 : zR d 300 Q 879 lv [.ref 60, .int y0] h = zM d 177 [.ref 60] h (fun r h' => zR d 300 Q 882 lv (r.toList ++ [.int y0]) h') := (q_clV rfl rfl (Nat.le_of_ble_eq_true rfl)).trans (zand_t ⟨rfl, Nat.le_of_ble_eq_true rfl⟩)
theorem r300_882 : zR d 300 Q 882 lv (.int z :: .int x :: st) h = if x = z then zR d 300 Q 1375 lv st h else zR d 300 Q 885 lv st h := q_if rfl rfl
theorem r300_885 : zR d 300 Q 885 lv st h = zR d 300 Q 886 lv (.int 0 :: st) h := q_in rfl rfl
theorem r300_886f : zR d 300 Q 886 lv [.int 0] h = Q (some (.int 0)) h := q_retz rfl rfl (Or.inr (Or.inl rfl))
theorem r300_886t : zR d 300 Q 886 lv [.int 1] h = Q (some (.int 1)) h := q_retz rfl rfl (Or.inr (Or.inr rfl))
theorem r300_887 : zR d 300 Q 887 (o0 :: some (.ref c) :: l) st h = zR d 300 Q 888 (o0 :: some (.ref c) :: l) (.ref c :: st) h := q_in rfl rfl
theorem r300_888 : zR d 300 Q 888 (some (.ref c) :: l) st h = zR d 300 Q 889 (some (.ref c) :: l) (.ref c :: st) h := q_in rfl rfl
theorem r300_889 : zR d 300 Q 889 (o0 :: o1 :: o2 :: some (.int x) :: l) st h = zR d 300 Q 890 (o0 :: o1 :: o2 :: some (.int x) :: l) (.int x :: st) h := q_in rfl rfl
theorem r300_890 : zR d 300 Q 890 lv st h = zR d 300 Q 891 lv (.int 1 :: st) h := q_in rfl rfl
theorem r300_891 : zR d 300 Q 891 lv (.int z :: .int x :: st) h = zR d 300 Q 892 lv (.int (x + z) :: st) h := q_in rfl rfl
theorem r300_892 : zR d 300 Q 892 lv (.int x :: .ref c :: st) h = zal c x h (fun w => zR d 300 Q 893 lv (.int w :: st) h) := q_iald rfl
theorem r300_893 : zR d 300 Q 893 (some (.ref c) :: l) st h = zR d 300 Q 894 (some (.ref c) :: l) (.ref c :: st) h := q_in rfl rfl
theorem r300_894 : zR d 300 Q 894 (o0 :: o1 :: o2 :: some (.int x) :: l) st h = zR d 300 Q 895 (o0 :: o1 :: o2 :: some (.int x) :: l) (.int x :: st) h := q_in rfl rfl
theorem r300_895 : zR d 300 Q 895 lv st h = zR d 300 Q 896 lv (.int 2 :: st) h := q_in rfl rfl
theorem r300_896 : zR d 300 Q 896 lv (.int z :: .int x :: st) h = zR d 300 Q 897 lv (.int (x + z) :: st) h := q_in rfl rfl
theorem r300_897 : zR d 300 Q 897 lv (.int x :: .ref c :: st) h = zal c x h (fun w => zR d 300 Q 898 lv (.int w :: st) h) := q_iald rfl
theorem r300_898 : zR d 300 Q 898 lv [.int x1, .int x0, .ref 0] h = zM d 84 [.ref 0, .int x0, .int x1] h (fun r h' => zR d 300 Q 901 lv (r.toList ++ []) h') := (q_clV rfl rfl (Nat.le_of_ble_eq_true rfl)).trans (zand_t ⟨rfl, Nat.le_of_ble_eq_true rfl⟩)
theorem r300_901 : zR d 300 Q 901 (o0 :: o1 :: some (.ref c) :: l) st h = zR d 300 Q 902 (o0 :: o1 :: some (.ref c) :: l) (.ref c :: st) h := q_in rfl rfl
theorem r300_902 : zR d 300 Q 902 (some (.ref c) :: l) st h = zR d 300 Q 903 (some (.ref c) :: l) (.ref c :: st) h := q_in rfl rfl
theorem r300_903 : zR d 300 Q 903 (o0 :: o1 :: o2 :: some (.int x) :: l) st h = zR d 300 Q 904 (o0 :: o1 :: o2 :: some (.int x) :: l) (.int x :: st) h := q_in rfl rfl
theorem r300_904 : zR d 300 Q 904 lv st h = zR d 300 Q 905 lv (.int 1 :: st) h := q_in rfl rfl
theorem r300_905 : zR d 300 Q 905 lv (.int z :: .int x :: st) h = zR d 300 Q 906 lv (.int (x + z) :: st) h := q_in rfl rfl
theorem r300_906 : zR d 300 Q 906 lv (.int x :: .ref c :: st) h = zal c x h (fun w => zR d 300 Q 907 lv (.int w :: st) h) := q_iald rfl
theorem r300_907 : zR d 300 Q 907 (some (.ref c) :: l) st h = zR d 300 Q 908 (some (.ref c) :: l) (.ref c :: st) h := q_in rfl rfl
theorem r300_908 : zR d 300 Q 908 (o0 :: o1 :: o2 :: some (.int x) :: l) st h = zR d 300 Q 909 (o0 :: o1 :: o2 :: some (.int x) :: l) (.int x :: st) h := q_in rfl rfl
theorem r300_909 : zR d 300 Q 909 lv st h = zR d 300 Q 910 lv (.int 2 :: st) h := q_in rfl rfl
theorem r300_910 : zR d 300 Q 910 lv (.int z :: .int x :: st) h = zR d 300 Q 911 lv (.int (x + z) :: st) h := q_in rfl rfl
theorem r300_911 : zR d 300 Q 911 lv (.int x :: .ref c :: st) h = zal c x h (fun w => zR d 300 Q 912 lv (.int w :: st) h) := q_iald rfl
theorem r300_912 : zR d 300 Q 912 lv [.int x1, .int x0, .ref 60, .int y0] h = zM d 178 [.ref 60, .int x0, .int x1] h (fun r h' => zR d 300 Q 915 lv (r.toList ++ [.int y0]) h') := (q_clV rfl rfl (Nat.le_of_ble_eq_true rfl)).trans (zand_t ⟨rfl, Nat.le_of_ble_eq_true rfl⟩)
theorem r300_915 : zR d 300 Q 915 lv (.int z :: .int x :: st) h = if x = z then zR d 300 Q 1375 lv st h else zR d 300 Q 918 lv st h := q_if rfl rfl
theorem r300_918 : zR d 300 Q 918 lv st h = zR d 300 Q 919 lv (.int 0 :: st) h := q_in rfl rfl
theorem r300_919f : zR d 300 Q 919 lv [.int 0] h = Q (some (.int 0)) h := q_retz rfl rfl (Or.inr (Or.inl rfl))
theorem r300_919t : zR d 300 Q 919 lv [.int 1] h = Q (some (.int 1)) h := q_retz rfl rfl (Or.inr (Or.inr rfl))
theorem r300_920 : zR d 300 Q 920 (o0 :: some (.ref c) :: l) st h = zR d 300 Q 921 (o0 :: some (.ref c) :: l) (.ref c :: st) h := q_in rfl rfl
theorem r300_921 : zR d 300 Q 921 (some (.ref c) :: l) st h = zR d 300 Q 922 (some (.ref c) :: l) (.ref c :: st) h := q_in rfl rfl
theorem r300_922 : zR d 300 Q 922 (o0 :: o1 :: o2 :: some (.int x) :: l) st h = zR d 300 Q 923 (o0 :: o1 :: o2 :: some (.int x) :: l) (.int x :: st) h := q_in rfl rfl
theorem r300_923 : zR d 300 Q 923 lv st h = zR d 300 Q 924 lv (.int 1 :: st) h := q_in rfl rfl
theorem r300_924 : zR d 300 Q 924 lv (.int z :: .int x :: st) h = zR d 300 Q 925 lv (.int (x + z) :: st) h := q_in rfl rfl
theorem r300_925 : zR d 300 Q 925 lv (.int x :: .ref c :: st) h = zal c x h (fun w => zR d 300 Q 926 lv (.int w :: st) h) := q_iald rfl
theorem r300_926 : zR d 300 Q 926 lv [.int x0, .ref 0] h = zM d 85 [.ref 0, .int x0] h (fun r h' => zR d 300 Q 929 lv (r.toList ++ []) h') := (q_clV rfl rfl (Nat.le_of_ble_eq_true rfl)).trans (zand_t ⟨rfl, Nat.le_of_ble_eq_true rfl⟩)
theorem r300_929 : zR d 300 Q 929 (o0 :: o1 :: some (.ref c) :: l) st h = zR d 300 Q 930 (o0 :: o1 :: some (.ref c) :: l) (.ref c :: st) h := q_in rfl rfl
theorem r300_930 : zR d 300 Q 930 (some (.ref c) :: l) st h = zR d 300 Q 931 (some (.ref c) :: l) (.ref c :: st) h := q_in rfl rfl
theorem r300_931 : zR d 300 Q 931 (o0 :: o1 :: o2 :: some (.int x) :: l) st h = zR d 300 Q 932 (o0 :: o1 :: o2 :: some (.int x) :: l) (.int x :: st) h := q_in rfl rfl
theorem r300_932 : zR d 300 Q 932 lv st h = zR d 300 Q 933 lv (.int 1 :: st) h := q_in rfl rfl
theorem r300_933 : zR d 300 Q 933 lv (.int z :: .int x :: st) h = zR d 300 Q 934 lv (.int (x + z) :: st) h := q_in rfl rfl
theorem r300_934 : zR d 300 Q 934 lv (.int x :: .ref c :: st) h = zal c x h (fun w => zR d 300 Q 935 lv (.int w :: st) h) := q_iald rfl
theorem r300_935 : zR d 300 Q 935 lv [.int x0, .ref 60, .int y0] h = zM d 180 [.ref 60, .int x0] h (fun r h' => zR d 300 Q 938 lv (r.toList ++ [.int y0]) h') := (q_clV rfl rfl (Nat.le_of_ble_eq_true rfl)).trans (zand_t ⟨rfl, Nat.le_of_ble_eq_true rfl⟩)
theorem r300_938 : zR d 300 Q 938 lv (.int z :: .int x :: st) h = if x = z then zR d 300 Q 1375 lv st h else zR d 300 Q 941 lv st h := q_if rfl rfl
theorem r300_941 : zR d 300 Q 941 lv st h = zR d 300 Q 942 lv (.int 0 :: st) h := q_in rfl rfl
theorem r300_942f : zR d 300 Q 942 lv [.int 0] h = Q (some (.int 0)) h := q_retz rfl rfl (Or.inr (Or.inl rfl))
theorem r300_942t : zR d 300 Q 942 lv [.int 1] h = Q (some (.int 1)) h := q_retz rfl rfl (Or.inr (Or.inr rfl))
theorem r300_943 : zR d 300 Q 943 (o0 :: some (.ref c) :: l) st h = zR d 300 Q 944 (o0 :: some (.ref c) :: l) (.ref c :: st) h := q_in rfl rfl
theorem r300_944 : zR d 300 Q 944 (some (.ref c) :: l) st h = zR d 300 Q 945 (some (.ref c) :: l) (.ref c :: st) h := q_in rfl rfl
theorem r300_945 : zR d 300 Q 945 (o0 :: o1 :: o2 :: some (.int x) :: l) st h = zR d 300 Q 946 (o0 :: o1 :: o2 :: some (.int x) :: l) (.int x :: st) h := q_in rfl rfl
theorem r300_946 : zR d 300 Q 946 lv st h = zR d 300 Q 947 lv (.int 1 :: st) h := q_in rfl rfl
theorem r300_947 : zR d 300 Q 947 lv (.int z :: .int x :: st) h = zR d 300 Q 948 lv (.int (x + z) :: st) h := q_in rfl rfl
theorem r300_948 : zR d 300 Q 948 lv (.int x :: .ref c :: st) h = zal c x h (fun w => zR d 300 Q 949 lv (.int w :: st) h) := q_iald rfl
theorem r300_949 : zR d 300 Q 949 (some (.ref c) :: l) st h = zR d 300 Q 950 (some (.ref c) :: l) (.ref c :: st) h := q_in rfl rfl
theorem r300_950 : zR d 300 Q 950 (o0 :: o1 :: o2 :: some (.int x) :: l) st h = zR d 300 Q 951 (o0 :: o1 :: o2 :: some (.int x) :: l) (.int x :: st) h := q_in rfl rfl
theorem r300_951 : zR d 300 Q 951 lv st h = zR d 300 Q 952 lv (.int 2 :: st) h := q_in rfl rfl
theorem r300_952 : zR d 300 Q 952 lv (.int z :: .int x :: st) h = zR d 300 Q 953 lv (.int (x + z) :: st) h := q_in rfl rfl
theorem r300_953 : zR d 300 Q 953 lv (.int x :: .ref c :: st) h = zal c x h (fun w => zR d 300 Q 954 lv (.int w :: st) h) := q_iald rfl
theorem r300_954 : zR d 300 Q 954 (some (.ref c) :: l) st h = zR d 300 Q 955 (some (.ref c) :: l) (.ref c :: st) h := q_in rfl rfl
theorem r300_955 : zR d 300 Q 955 (o0 :: o1 :: o2 :: some (.int x) :: l) st h = zR d 300 Q 956 (o0 :: o1 :: o2 :: some (.int x) :: l) (.int x :: st) h := q_in rfl rfl
theorem r300_956 : zR d 300 Q 956 lv st h = zR d 300 Q 957 lv (.int 3 :: st) h := q_in rfl rfl
theorem r300_957 : zR d 300 Q 957 lv (.int z :: .int x :: st) h = zR d 300 Q 958 lv (.int (x + z) :: st) h := q_in rfl rfl
theorem r300_958 : zR d 300 Q 958 lv (.int x :: .ref c :: st) h = zal c x h (fun w => zR d 300 Q 959 lv (.int w :: st) h) := q_iald rfl
theorem r300_959 : zR d 300 Q 959 lv [.int x2, .int x1, .int x0, .ref 0] h = zM d 86 [.ref 0, .int x0, .int x1, .int x2] h (fun r h' => zR d 300 Q 962 lv (r.toList ++ []) h') := (q_clV rfl rfl (Nat.le_of_ble_eq_true rfl)).trans (zand_t ⟨rfl, Nat.le_of_ble_eq_true rfl⟩)
theorem r300_962 : zR d 300 Q 962 (o0 :: o1 :: some (.ref c) :: l) st h = zR d 300 Q 963 (o0 :: o1 :: some (.ref c) :: l) (.ref c :: st) h := q_in rfl rfl
theorem r300_963 : zR d 300 Q 963 (some (.ref c) :: l) st h = zR d 300 Q 964 (some (.ref c) :: l) (.ref c :: st) h := q_in rfl rfl
theorem r300_964 : zR d 300 Q 964 (o0 :: o1 :: o2 :: some (.int x) :: l) st h = zR d 300 Q 965 (o0 :: o1 :: o2 :: some (.int x) :: l) (.int x :: st) h := q_in rfl rfl
theorem r300_965 : zR d 300 Q 965 lv st h = zR d 300 Q 966 lv (.int 1 :: st) h := q_in rfl rfl
theorem r300_966 : zR d 300 Q 966 lv (.int z :: .int x :: st) h = zR d 300 Q 967 lv (.int (x + z) :: st) h := q_in rfl rfl
theorem r300_967 : zR d 300 Q 967 lv (.int x :: .ref c :: st) h = zal c x h (fun w => zR d 300 Q 968 lv (.int w :: st) h) := q_iald rfl
theorem r300_968 : zR d 300 Q 968 (some (.ref c) :: l) st h = zR d 300 Q 969 (some (.ref c) :: l) (.ref c :: st) h := q_in rfl rfl
theorem r300_969 : zR d 300 Q 969 (o0 :: o1 :: o2 :: some (.int x) :: l) st h = zR d 300 Q 970 (o0 :: o1 :: o2 :: some (.int x) :: l) (.int x :: st) h := q_in rfl rfl
theorem r300_970 : zR d 300 Q 970 lv st h = zR d 300 Q 971 lv (.int 2 :: st) h := q_in rfl rfl
theorem r300_971 : zR d 300 Q 971 lv (.int z :: .int x :: st) h = zR d 300 Q 972 lv (.int (x + z) :: st) h := q_in rfl rfl
theorem r300_972 : zR d 300 Q 972 lv (.int x :: .ref c :: st) h = zal c x h (fun w => zR d 300 Q 973 lv (.int w :: st) h) := q_iald rfl
theorem r300_973 : zR d 300 Q 973 (some (.ref c) :: l) st h = zR d 300 Q 974 (some (.ref c) :: l) (.ref c :: st) h := q_in rfl rfl
theorem r300_974 : zR d 300 Q 974 (o0 :: o1 :: o2 :: some (.int x) :: l) st h = zR d 300 Q 975 (o0 :: o1 :: o2 :: some (.int x) :: l) (.int x :: st) h := q_in rfl rfl
theorem r300_975 : zR d 300 Q 975 lv st h = zR d 300 Q 976 lv (.int 3 :: st) h := q_in rfl rfl
theorem r300_976 : zR d 300 Q 976 lv (.int z :: .int x :: st) h = zR d 300 Q 977 lv (.int (x + z) :: st) h := q_in rfl rfl
theorem r300_977 : zR d 300 Q 977 lv (.int x :: .ref c :: st) h = zal c x h (fun w => zR d 300 Q 978 lv (.int w :: st) h) := q_iald rfl
theorem r300_978 : zR d 300 Q 978 lv [.int x2, .int x1, .int x0, .ref 60, .int y0] h = zM d 184 [.ref 60, .int x0, .int x1, .int x2] h (fun r h' => zR d 300 Q 981 lv (r.toList ++ [.int y0]) h') := (q_clV rfl rfl (Nat.le_of_ble_eq_true rfl)).trans (zand_t ⟨rfl, Nat.le_of_ble_eq_true rfl⟩)
theorem r300_981 : zR d 300 Q 981 lv (.int z :: .int x :: st) h = if x = z then zR d 300 Q 1375 lv st h else zR d 300 Q 984 lv st h := q_if rfl rfl
theorem r300_984 : zR d 300 Q 984 lv st h = zR d 300 Q 985 lv (.int 0 :: st) h := q_in rfl rfl
theorem r300_985f : zR d 300 Q 985 lv [.int 0] h = Q (some (.int 0)) h := q_retz rfl rfl (Or.inr (Or.inl rfl))
theorem r300_985t : zR d 300 Q 985 lv [.int 1] h = Q (some (.int 1)) h := q_retz rfl rfl (Or.inr (Or.inr rfl))
theorem r300_986 : zR d 300 Q 986 (o0 :: some (.ref c) :: l) st h = zR d 300 Q 987 (o0 :: some (.ref c) :: l) (.ref c :: st) h := q_in rfl rfl
theorem r300_987 : zR d 300 Q 987 (some (.ref c) :: l) st h = zR d 300 Q 988 (some (.ref c) :: l) (.ref c :: st) h := q_in rfl rfl
theorem r300_988 : zR d 300 Q 988 (o0 :: o1 :: o2 :: some (.int x) :: l) st h = zR d 300 Q 989 (o0 :: o1 :: o2 :: some (.int x) :: l) (.int x :: st) h := q_in rfl rfl
theorem r300_989 : zR d 300 Q 989 lv st h = zR d 300 Q 990 lv (.int 1 :: st) h := q_in rfl rfl
theorem r300_990 : zR d 300 Q 990 lv (.int z :: .int x :: st) h = zR d 300 Q 991 lv (.int (x + z) :: st) h := q_in rfl rfl
theorem r300_991 : zR d 300 Q 991 lv (.int x :: .ref c :: st) h = zal c x h (fun w => zR d 300 Q 992 lv (.int w :: st) h) := q_iald rfl
theorem r300_992 : zR d 300 Q 992 (some (.ref c) :: l) st h = zR d 300 Q 993 (some (.ref c) :: l) (.ref c :: st) h := q_in rfl rfl
theorem r300_993 : zR d 300 Q 993 (o0 :: o1 :: o2 :: some (.int x) :: l) st h = zR d 300 Q 994 (o0 :: o1 :: o2 :: some (.int x) :: l) (.int x :: st) h := q_in rfl rfl
theorem r300_994 : zR d 300 Q 994 lv st h = zR d 300 Q 995 lv (.int 2 :: st) h := q_in rfl rfl
theorem r300_995 : zR d 300 Q 995 lv (.int z :: .int x :: st) h = zR d 300 Q 996 lv (.int (x + z) :: st) h := q_in rfl rfl
theorem r300_996 : zR d 300 Q 996 lv (.int x :: .ref c :: st) h = zal c x h (fun w => zR d 300 Q 997 lv (.int w :: st) h) := q_iald rfl
theorem r300_997 : zR d 300 Q 997 (some (.ref c) :: l) st h = zR d 300 Q 998 (some (.ref c) :: l) (.ref c :: st) h := q_in rfl rfl
theorem r300_998 : zR d 300 Q 998 (o0 :: o1 :: o2 :: some (.int x) :: l) st h = zR d 300 Q 999 (o0 :: o1 :: o2 :: some (.int x) :: l) (.int x :: st) h := q_in rfl rfl
theorem r300_999 : zR d 300 Q 999 lv st h = zR d 300 Q 1000 lv (.int 3 :: st) h := q_in rfl rfl
theorem r300_1000 : zR d 300 Q 1000 lv (.int z :: .int x :: st) h = zR d 300 Q 1001 lv (.int (x + z) :: st) h := q_in rfl rfl
theorem r300_1001 : zR d 300 Q 1001 lv (.int x :: .ref c :: st) h = zal c x h (fun w => zR d 300 Q 1002 lv (.int w :: st) h) := q_iald rfl
theorem r300_1002 : zR d 300 Q 1002 lv [.int x2, .int x1, .int x0, .ref 0] h = zM d 87 [.ref 0, .int x0, .int x1, .int x2] h (fun r h' => zR d 300 Q 1005 lv (r.toList ++ []) h') := (q_clV rfl rfl (Nat.le_of_ble_eq_true rfl)).trans (zand_t ⟨rfl, Nat.le_of_ble_eq_true rfl⟩)
theorem r300_1005 : zR d 300 Q 1005 (o0 :: o1 :: some (.ref c) :: l) st h = zR d 300 Q 1006 (o0 :: o1 :: some (.ref c) :: l) (.ref c :: st) h := q_in rfl rfl
theorem r300_1006 : zR d 300 Q 1006 (some (.ref c) :: l) st h = zR d 300 Q 1007 (some (.ref c) :: l) (.ref c :: st) h := q_in rfl rfl
theorem r300_1007 : zR d 300 Q 1007 (o0 :: o1 :: o2 :: some (.int x) :: l) st h = zR d 300 Q 1008 (o0 :: o1 :: o2 :: some (.int x) :: l) (.int x :: st) h := q_in rfl rfl
theorem r300_1008 : zR d 300 Q 1008 lv st h = zR d 300 Q 1009 lv (.int 1 :: st) h := q_in rfl rfl
theorem r300_1009 : zR d 300 Q 1009 lv (.int z :: .int x :: st) h = zR d 300 Q 1010 lv (.int (x + z) :: st) h := q_in rfl rfl
theorem r300_1010 : zR d 300 Q 1010 lv (.int x :: .ref c :: st) h = zal c x h (fun w => zR d 300 Q 1011 lv (.int w :: st) h) := q_iald rfl
theorem r300_1011 : zR d 300 Q 1011 (some (.ref c) :: l) st h = zR d 300 Q 1012 (some (.ref c) :: l) (.ref c :: st) h := q_in rfl rfl
theorem r300_1012 : zR d 300 Q 1012 (o0 :: o1 :: o2 :: some (.int x) :: l) st h = zR d 300 Q 1013 (o0 :: o1 :: o2 :: some (.int x) :: l) (.int x :: st) h := q_in rfl rfl
theorem r300_1013 : zR d 300 Q 1013 lv st h = zR d 300 Q 1014 lv (.int 2 :: st) h := q_in rfl rfl
theorem r300_1014 : zR d 300 Q 1014 lv (.int z :: .int x :: st) h = zR d 300 Q 1015 lv (.int (x + z) :: st) h := q_in rfl rfl
theorem r300_1015 : zR d 300 Q 1015 lv (.int x :: .ref c :: st) h = zal c x h (fun w => zR d 300 Q 1016 lv (.int w :: st) h) := q_iald rfl
theorem r300_1016 : zR d 300 Q 1016 (some (.ref c) :: l) st h = zR d 300 Q 1017 (some (.ref c) :: l) (.ref c :: st) h := q_in rfl rfl
theorem r300_1017 : zR d 300 Q 1017 (o0 :: o1 :: o2 :: some (.int x) :: l) st h = zR d 300 Q 1018 (o0 :: o1 :: o2 :: some (.int x) :: l) (.int x :: st) h := q_in rfl rfl
theorem r300_1018 : zR d 300 Q 1018 lv st h = zR d 300 Q 1019 lv (.int 3 :: st) h := q_in rfl rfl
theorem r300_1019 : zR d 300 Q 1019 lv (.int z :: .int x :: st) h = zR d 300 Q 1020 lv (.int (x + z) :: st) h := q_in rfl rfl
theorem r300_1020 : zR d 300 Q 1020 lv (.int x :: .ref c :: st) h = zal c x h (fun w => zR d 300 Q 1021 lv (.int w :: st) h) := q_iald rfl
theorem r300_1021 : zR d 300 Q 1021 lv [.int x2, .int x1, .int x0, .ref 60, .int y0] h = zM d 185 [.ref 60, .int x0, .int x1, .int x2] h (fun r h' => zR d 300 Q 1024 lv (r.toList ++ [.int y0]) h') := (q_clV rfl rfl (Nat.le_of_ble_eq_true rfl)).trans (zand_t ⟨rfl, Nat.le_of_ble_eq_true rfl⟩)
theorem r300_1024 : zR d 300 Q 1024 lv (.int z :: .int x :: st) h = if x = z then zR d 300 Q 1375 lv st h else zR d 300 Q 1027 lv st h := q_if rfl rfl
theorem r300_1027 : zR d 300 Q 1027 lv st h = zR d 300 Q 1028 lv (.int 0 :: st) h := q_in rfl rfl
theorem r300_1028f : zR d 300 Q 1028 lv [.int 0] h = Q (some (.int 0)) h := q_retz rfl rfl (Or.inr (Or.inl rfl))
theorem r300_1028t : zR d 300 Q 1028 lv [.int 1] h = Q (some (.int 1)) h := q_retz rfl rfl (Or.inr (Or.inr rfl))
theorem r300_1029 : zR d 300 Q 1029 (o0 :: some (.ref c) :: l) st h = zR d 300 Q 1030 (o0 :: some (.ref c) :: l) (.ref c :: st) h := q_in rfl rfl
theorem r300_1030 : zR d 300 Q 1030 (some (.ref c) :: l) st h = zR d 300 Q 1031 (some (.ref c) :: l) (.ref c :: st) h := q_in rfl rfl
theorem r300_1031 : zR d 300 Q 1031 (o0 :: o1 :: o2 :: some (.int x) :: l) st h = zR d 300 Q 1032 (o0 :: o1 :: o2 :: some (.int x) :: l) (.int x :: st) h := q_in rfl rfl
theorem r300_1032 : zR d 300 Q 1032 lv st h = zR d 300 Q 1033 lv (.int 1 :: st) h := q_in rfl rfl
theorem r300_1033 : zR d 300 Q 1033 lv (.int z :: .int x :: st) h = zR d 300 Q 1034 lv (.int (x + z) :: st) h := q_in rfl rfl
theorem r300_1034 : zR d 300 Q 1034 lv (.int x :: .ref c :: st) h = zal c x h (fun w => zR d 300 Q 1035 lv (.int w :: st) h) := q_iald rfl
theorem r300_1035 : zR d 300 Q 1035 lv [.int x0, .ref 0] h = zM d 88 [.ref 0, .int x0] h (fun r h' => zR d 300 Q 1038 lv (r.toList ++ []) h') := (q_clV rfl rfl (Nat.le_of_ble_eq_true rfl)).trans (zand_t ⟨rfl, Nat.le_of_ble_eq_true rfl⟩)
theorem r300_1038 : zR d 300 Q 1038 (o0 :: o1 :: some (.ref c) :: l) st h = zR d 300 Q 1039 (o0 :: o1 :: some (.ref c) :: l) (.ref c :: st) h := q_in rfl rfl
theorem r300_1039 : zR d 300 Q 1039 (some (.ref c) :: l) st h = zR d 300 Q 1040 (some (.ref c) :: l) (.ref c :: st) h := q_in rfl rfl
theorem r300_1040 : zR d 300 Q 1040 (o0 :: o1 :: o2 :: some (.int x) :: l) st h = zR d 300 Q 1041 (o0 :: o1 :: o2 :: some (.int x) :: l) (.int x :: st) h := q_in rfl rfl
theorem r300_1041 : zR d 300 Q 1041 lv st h = zR d 300 Q 1042 lv (.int 1 :: st) h := q_in rfl rfl
theorem r300_1042 : zR d 300 Q 1042 lv (.int z :: .int x :: st) h = zR d 300 Q 1043 lv (.int (x + z) :: st) h := q_in rfl rfl
theorem r300_1043 : zR d 300 Q 1043 lv (.int x :: .ref c :: st) h = zal c x h (fun w => zR d 300 Q 1044 lv (.int w :: st) h) := q_iald rfl
theorem r300_1044 : zR d 300 Q 1044 lv [.int x0, .ref 60, .int y0] h = zM d 186 [.ref 60, .int x0] h (fun r h' => zR d 300 Q 1047 lv (r.toList ++ [.int y0]) h') := (q_clV rfl rfl (Nat.le_of_ble_eq_true rfl)).trans (zand_t ⟨rfl, Nat.le_of_ble_eq_true rfl⟩)
theorem r300_1047 : zR d 300 Q 1047 lv (.int z :: .int x :: st) h = if x = z then zR d 300 Q 1375 lv st h else zR d 300 Q 1050 lv st h := q_if rfl rfl
theorem r300_1050 : zR d 300 Q 1050 lv st h = zR d 300 Q 1051 lv (.int 0 :: st) h := q_in rfl rfl
theorem r300_1051f : zR d 300 Q 1051 lv [.int 0] h = Q (some (.int 0)) h := q_retz rfl rfl (Or.inr (Or.inl rfl))
theorem r300_1051t : zR d 300 Q 1051 lv [.int 1] h = Q (some (.int 1)) h := q_retz rfl rfl (Or.inr (Or.inr rfl))
theorem r300_1052 : zR d 300 Q 1052 (o0 :: some (.ref c) :: l) st h = zR d 300 Q 1053 (o0 :: some (.ref c) :: l) (.ref c :: st) h := q_in rfl rfl
theorem r300_1053 : zR d 300 Q 1053 (some (.ref c) :: l) st h = zR d 300 Q 1054 (some (.ref c) :: l) (.ref c :: st) h := q_in rfl rfl
theorem r300_1054 : zR d 300 Q 1054 (o0 :: o1 :: o2 :: some (.int x) :: l) st h = zR d 300 Q 1055 (o0 :: o1 :: o2 :: some (.int x) :: l) (.int x :: st) h := q_in rfl rfl
theorem r300_1055 : zR d 300 Q 1055 lv st h = zR d 300 Q 1056 lv (.int 1 :: st) h := q_in rfl rfl
theorem r300_1056 : zR d 300 Q 1056 lv (.int z :: .int x :: st) h = zR d 300 Q 1057 lv (.int (x + z) :: st) h := q_in rfl rfl
theorem r300_1057 : zR d 300 Q 1057 lv (.int x :: .ref c :: st) h = zal c x h (fun w => zR d 300 Q 1058 lv (.int w :: st) h) := q_iald rfl
theorem r300_1058 : zR d 300 Q 1058 lv [.int x0, .ref 0] h = zM d 89 [.ref 0, .int x0] h (fun r h' => zR d 300 Q 1061 lv (r.toList ++ []) h') := (q_clV rfl rfl (Nat.le_of_ble_eq_true rfl)).trans (zand_t ⟨rfl, Nat.le_of_ble_eq_true rfl⟩)
theorem r300_1061 : zR d 300 Q 1061 (o0 :: o1 :: some (.ref c) :: l) st h = zR d 300 Q 1062 (o0 :: o1 :: some (.ref c) :: l) (.ref c :: st) h := q_in rfl rfl
theorem r300_1062 : zR d 300 Q 1062 (some (.ref c) :: l) st h = zR d 300 Q 1063 (some (.ref c) :: l) (.ref c :: st) h := q_in rfl rfl
theorem r300_1063 : zR d 300 Q 1063 (o0 :: o1 :: o2 :: some (.int x) :: l) st h = zR d 300 Q 1064 (o0 :: o1 :: o2 :: some (.int x) :: l) (.int x :: st) h := q_in rfl rfl
theorem r300_1064 : zR d 300 Q 1064 lv st h = zR d 300 Q 1065 lv (.int 1 :: st) h := q_in rfl rfl
theorem r300_1065 : zR d 300 Q 1065 lv (.int z :: .int x :: st) h = zR d 300 Q 1066 lv (.int (x + z) :: st) h := q_in rfl rfl
theorem r300_1066 : zR d 300 Q 1066 lv (.int x :: .ref c :: st) h = zal c x h (fun w => zR d 300 Q 1067 lv (.int w :: st) h) := q_iald rfl
theorem r300_1067 : zR d 300 Q 1067 lv [.int x0, .ref 60, .int y0] h = zM d 187 [.ref 60, .int x0] h (fun r h' => zR d 300 Q 1070 lv (r.toList ++ [.int y0]) h') := (q_clV rfl rfl (Nat.le_of_ble_eq_true rfl)).trans (zand_t ⟨rfl, Nat.le_of_ble_eq_true rfl⟩)
theorem r300_1070 : zR d 300 Q 1070 lv (.int z :: .int x :: st) h = if x = z then zR d 300 Q 1375 lv st h else zR d 300 Q 1073 lv st h := q_if rfl rfl
theorem r300_1073 : zR d 300 Q 1073 lv st h = zR d 300 Q 1074 lv (.int 0 :: st) h := q_in rfl rfl
theorem r300_1074f : zR d 300 Q 1074 lv [.int 0] h = Q (some (.int 0)) h := q_retz rfl rfl (Or.inr (Or.inl rfl))
theorem r300_1074t : zR d 300 Q 1074 lv [.int 1] h = Q (some (.int 1)) h := q_retz rfl rfl (Or.inr (Or.inr rfl))
theorem r300_1075 : zR d 300 Q 1075 (o0 :: some (.ref c) :: l) st h = zR d 300 Q 1076 (o0 :: some (.ref c) :: l) (.ref c :: st) h := q_in rfl rfl
theorem r300_1076 : zR d 300 Q 1076 (some (.ref c) :: l) st h = zR d 300 Q 1077 (some (.ref c) :: l) (.ref c :: st) h := q_in rfl rfl
theorem r300_1077 : zR d 300 Q 1077 (o0 :: o1 :: o2 :: some (.int x) :: l) st h = zR d 300 Q 1078 (o0 :: o1 :: o2 :: some (.int x) :: l) (.int x :: st) h := q_in rfl rfl
theorem r300_1078 : zR d 300 Q 1078 lv st h = zR d 300 Q 1079 lv (.int 1 :: st) h := q_in rfl rfl
theorem r300_1079 : zR d 300 Q 1079 lv (.int z :: .int x :: st) h = zR d 300 Q 1080 lv (.int (x + z) :: st) h := q_in rfl rfl
theorem r300_1080 : zR d 300 Q 1080 lv (.int x :: .ref c :: st) h = zal c x h (fun w => zR d 300 Q 1081 lv (.int w :: st) h) := q_iald rfl
theorem r300_1081 : zR d 300 Q 1081 (some (.ref c) :: l) st h = zR d 300 Q 1082 (some (.ref c) :: l) (.ref c :: st) h := q_in rfl rfl
theorem r300_1082 : zR d 300 Q 1082 (o0 :: o1 :: o2 :: some (.int x) :: l) st h = zR d 300 Q 1083 (o0 :: o1 :: o2 :: some (.int x) :: l) (.int x :: st) h := q_in rfl rfl
theorem r300_1083 : zR d 300 Q 1083 lv st h = zR d 300 Q 1084 lv (.int 2 :: st) h := q_in rfl rfl
theorem r300_1084 : zR d 300 Q 1084 lv (.int z :: .int x :: st) h = zR d 300 Q 1085 lv (.int (x + z) :: st) h := q_in rfl rfl
theorem r300_1085 : zR d 300 Q 1085 lv (.int x :: .ref c :: st) h = zal c x h (fun w => zR d 300 Q 1086 lv (.int w :: st) h) := q_iald rfl
theorem r300_1086 : zR d 300 Q 1086 (some (.ref c) :: l) st h = zR d 300 Q 1087 (some (.ref c) :: l) (.ref c :: st) h := q_in rfl rfl
theorem r300_1087 : zR d 300 Q 1087 (o0 :: o1 :: o2 :: some (.int x) :: l) st h = zR d 300 Q 1088 (o0 :: o1 :: o2 :: some (.int x) :: l) (.int x :: st) h := q_in rfl rfl
theorem r300_1088 : zR d 300 Q 1088 lv st h = zR d 300 Q 1089 lv (.int 3 :: st) h := q_in rfl rfl
theorem r300_1089 : zR d 300 Q 1089 lv (.int z :: .int x :: st) h = zR d 300 Q 1090 lv (.int (x + z) :: st) h := q_in rfl rfl
theorem r300_1090 : zR d 300 Q 1090 lv (.int x :: .ref c :: st) h = zal c x h (fun w => zR d 300 Q 1091 lv (.int w :: st) h) := q_iald rfl
theorem r300_1091 : zR d 300 Q 1091 (some (.ref c) :: l) st h = zR d 300 Q 1092 (some (.ref c) :: l) (.ref c :: st) h := q_in rfl rfl
theorem r300_1092 : zR d 300 Q 1092 (o0 :: o1 :: o2 :: some (.int x) :: l) st h = zR d 300 Q 1093 (o0 :: o1 :: o2 :: some (.int x) :: l) (.int x :: st) h := q_in rfl rfl
theorem r300_1093 : zR d 300 Q 1093 lv st h = zR d 300 Q 1094 lv (.int 4 :: st) h := q_in rfl rfl
theorem r300_1094 : zR d 300 Q 1094 lv (.int z :: .int x :: st) h = zR d 300 Q 1095 lv (.int (x + z) :: st) h := q_in rfl rfl
theorem r300_1095 : zR d 300 Q 1095 lv (.int x :: .ref c :: st) h = zal c x h (fun w => zR d 300 Q 1096 lv (.int w :: st) h) := q_iald rfl
theorem r300_1096 : zR d 300 Q 1096 (some (.ref c) :: l) st h = zR d 300 Q 1097 (some (.ref c) :: l) (.ref c :: st) h := q_in rfl rfl
theorem r300_1097 : zR d 300 Q 1097 (o0 :: o1 :: o2 :: some (.int x) :: l) st h = zR d 300 Q 1098 (o0 :: o1 :: o2 :: some (.int x) :: l) (.int x :: st) h := q_in rfl rfl
theorem r300_1098 : zR d 300 Q 1098 lv st h = zR d 300 Q 1099 lv (.int 5 :: st) h := q_in rfl rfl
theorem r300_1099 : zR d 300 Q 1099 lv (.int z :: .int x :: st) h = zR d 300 Q 1100 lv (.int (x + z) :: st) h := q_in rfl rfl
theorem r300_1100 : zR d 300 Q 1100 lv (.int x :: .ref c :: st) h = zal c x h (fun w => zR d 300 Q 1101 lv (.int w :: st) h) := q_iald rfl
theorem r300_1101 : zR d 300 Q 1101 lv [.int x4, .int x3, .int x2, .int x1, .int x0, .ref 0] h = zM d 90 [.ref 0, .int x0, .int x1, .int x2, .int x3, .int x4] h (fun r h' => zR d 300 Q 1104 lv (r.toList ++ []) h') := (q_clV rfl rfl (Nat.le_of_ble_eq_true rfl)).trans (zand_t ⟨rfl, Nat.le_of_ble_eq_true rfl⟩)
theorem r300_1104 : zR d 300 Q 1104 (o0 :: o1 :: some (.ref c) :: l) st h = zR d 300 Q 1105 (o0 :: o1 :: some (.ref c) :: l) (.ref c :: st) h := q_in rfl rfl
theorem r300_1105 : zR d 300 Q 1105 (some (.ref c) :: l) st h = zR d 300 Q 1106 (some (.ref c) :: l) (.ref c :: st) h := q_in rfl rfl
theorem r300_1106 : zR d 300 Q 1106 (o0 :: o1 :: o2 :: some (.int x) :: l) st h = zR d 300 Q 1107 (o0 :: o1 :: o2 :: some (.int x) :: l) (.int x :: st) h := q_in rfl rfl
theorem r300_1107 : zR d 300 Q 1107 lv st h = zR d 300 Q 1108 lv (.int 1 :: st) h := q_in rfl rfl
theorem r300_1108 : zR d 300 Q 1108 lv (.int z :: .int x :: st) h = zR d 300 Q 1109 lv (.int (x + z) :: st) h := q_in rfl rfl
theorem r300_1109 : zR d 300 Q 1109 lv (.int x :: .ref c :: st) h = zal c x h (fun w => zR d 300 Q 1110 lv (.int w :: st) h) := q_iald rfl
theorem r300_1110 : zR d 300 Q 1110 (some (.ref c) :: l) st h = zR d 300 Q 1111 (some (.ref c) :: l) (.ref c :: st) h := q_in rfl rfl
theorem r300_1111 : zR d 300 Q 1111 (o0 :: o1 :: o2 :: some (.int x) :: l) st h = zR d 300 Q 1112 (o0 :: o1 :: o2 :: some (.int x) :: l) (.int x :: st) h := q_in rfl rfl
theorem r300_1112 : zR d 300 Q 1112 lv st h = zR d 300 Q 1113 lv (.int 2 :: st) h := q_in rfl rfl
theorem r300_1113 : zR d 300 Q 1113 lv (.int z :: .int x :: st) h = zR d 300 Q 1114 lv (.int (x + z) :: st) h := q_in rfl rfl
theorem r300_1114 : zR d 300 Q 1114 lv (.int x :: .ref c :: st) h = zal c x h (fun w => zR d 300 Q 1115 lv (.int w :: st) h) := q_iald rfl
theorem r300_1115 : zR d 300 Q 1115 (some (.ref c) :: l) st h = zR d 300 Q 1116 (some (.ref c) :: l) (.ref c :: st) h := q_in rfl rfl
theorem r300_1116 : zR d 300 Q 1116 (o0 :: o1 :: o2 :: some (.int x) :: l) st h = zR d 300 Q 1117 (o0 :: o1 :: o2 :: some (.int x) :: l) (.int x :: st) h := q_in rfl rfl
theorem r300_1117 : zR d 300 Q 1117 lv st h = zR d 300 Q 1118 lv (.int 3 :: st) h := q_in rfl rfl
theorem r300_1118 : zR d 300 Q 1118 lv (.int z :: .int x :: st) h = zR d 300 Q 1119 lv (.int (x + z) :: st) h := q_in rfl rfl
theorem r300_1119 : zR d 300 Q 1119 lv (.int x :: .ref c :: st) h = zal c x h (fun w => zR d 300 Q 1120 lv (.int w :: st) h) := q_iald rfl
theorem r300_1120 : zR d 300 Q 1120 (some (.ref c) :: l) st h = zR d 300 Q 1121 (some (.ref c) :: l) (.ref c :: st) h := q_in rfl rfl
theorem r300_1121 : zR d 300 Q 1121 (o0 :: o1 :: o2 :: some (.int x) :: l) st h = zR d 300 Q 1122 (o0 :: o1 :: o2 :: some (.int x) :: l) (.int x :: st) h := q_in rfl rfl
theorem r300_1122 : zR d 300 Q 1122 lv st h = zR d 300 Q 1123 lv (.int 4 :: st) h := q_in rfl rfl
theorem r300_1123 : zR d 300 Q 1123 lv (.int z :: .int x :: st) h = zR d 300 Q 1124 lv (.int (x + z) :: st) h := q_in rfl rfl
theorem r300_1124 : zR d 300 Q 1124 lv (.int x :: .ref c :: st) h = zal c x h (fun w => zR d 300 Q 1125 lv (.int w :: st) h) := q_iald rfl
theorem r300_1125 : zR d 300 Q 1125 (some (.ref c) :: l) st h = zR d 300 Q 1126 (some (.ref c) :: l) (.ref c :: st) h := q_in rfl rfl
theorem r300_1126 : zR d 300 Q 1126 (o0 :: o1 :: o2 :: some (.int x) :: l) st h = zR d 300 Q 1127 (o0 :: o1 :: o2 :: some (.int x) :: l) (.int x :: st) h := q_in rfl rfl
theorem r300_1127 : zR d 300 Q 1127 lv st h = zR d 300 Q 1128 lv (.int 5 :: st) h := q_in rfl rfl
theorem r300_1128 : zR d 300 Q 1128 lv (.int z :: .int x :: st) h = zR d 300 Q 1129 lv (.int (x + z) :: st) h := q_in rfl rfl
theorem r300_1129 : zR d 300 Q 1129 lv (.int x :: .ref c :: st) h = zal c x h (fun w => zR d 300 Q 1130 lv (.int w :: st) h) := q_iald rfl
theorem r300_1130 : zR d 300 Q 1130 lv [.int x4, .int x3, .int x2, .int x1, .int x0, .ref 60, .int y0] h = zM d 189 [.ref 60, .int x0, .int x1, .int x2, .int x3, .int x4] h (fun r h' => zR d 300 Q 1133 lv (r.toList ++ [.int y0]) h') := (q_clV rfl rfl (Nat.le_of_ble_eq_true rfl)).trans (zand_t ⟨rfl, Nat.le_of_ble_eq_true rfl⟩)
theorem r300_1133 : zR d 300 Q 1133 lv (.int z :: .int x :: st) h = if x = z then zR d 300 Q 1375 lv st h else zR d 300 Q 1136 lv st h := q_if rfl rfl
theorem r300_1136 : zR d 300 Q 1136 lv st h = zR d 300 Q 1137 lv (.int 0 :: st) h := q_in rfl rfl
theorem r300_1137f : zR d 300 Q 1137 lv [.int 0] h = Q (some (.int 0)) h := q_retz rfl rfl (Or.inr (Or.inl rfl))
theorem r300_1137t : zR d 300 Q 1137 lv [.int 1] h = Q (some (.int 1)) h := q_retz rfl rfl (Or.inr (Or.inr rfl))
theorem r300_1138 : zR d 300 Q 1138 (o0 :: some (.ref c) :: l) st h = zR d 300 Q 1139 (o0 :: some (.ref c) :: l) (.ref c :: st) h := q_in rfl rfl
theorem r300_1139 : zR d 300 Q 1139 (some (.ref c) :: l) st h = zR d 300 Q 1140 (some (.ref c) :: l) (.ref c :: st) h := q_in rfl rfl
theorem r300_1140 : zR d 300 Q 1140 (o0 :: o1 :: o2 :: some (.int x) :: l) st h = zR d 300 Q 1141 (o0 :: o1 :: o2 :: some (.int x) :: l) (.int x :: st) h := q_in rfl rfl
theorem r300_1141 : zR d 300 Q 1141 lv st h = zR d 300 Q 1142 lv (.int 1 :: st) h := q_in rfl rfl
theorem r300_1142 : zR d 300 Q 1142 lv (.int z :: .int x :: st) h = zR d 300 Q 1143 lv (.int (x + z) :: st) h := q_in rfl rfl
theorem r300_1143 : zR d 300 Q 1143 lv (.int x :: .ref c :: st) h = zal c x h (fun w => zR d 300 Q 1144 lv (.int w :: st) h) := q_iald rfl
theorem r300_1144 : zR d 300 Q 1144 (some (.ref c) :: l) st h = zR d 300 Q 1145 (some (.ref c) :: l) (.ref c :: st) h := q_in rfl rfl
theorem r300_1145 : zR d 300 Q 1145 (o0 :: o1 :: o2 :: some (.int x) :: l) st h = zR d 300 Q 1146 (o0 :: o1 :: o2 :: some (.int x) :: l) (.int x :: st) h := q_in rfl rfl
theorem r300_1146 : zR d 300 Q 1146 lv st h = zR d 300 Q 1147 lv (.int 2 :: st) h := q_in rfl rfl
theorem r300_1147 : zR d 300 Q 1147 lv (.int z :: .int x :: st) h = zR d 300 Q 1148 lv (.int (x + z) :: st) h := q_in rfl rfl
theorem r300_1148 : zR d 300 Q 1148 lv (.int x :: .ref c :: st) h = zal c x h (fun w => zR d 300 Q 1149 lv (.int w :: st) h) := q_iald rfl
theorem r300_1149 : zR d 300 Q 1149 (some (.ref c) :: l) st h = zR d 300 Q 1150 (some (.ref c) :: l) (.ref c :: st) h := q_in rfl rfl
theorem r300_1150 : zR d 300 Q 1150 (o0 :: o1 :: o2 :: some (.int x) :: l) st h = zR d 300 Q 1151 (o0 :: o1 :: o2 :: some (.int x) :: l) (.int x :: st) h := q_in rfl rfl
theorem r300_1151 : zR d 300 Q 1151 lv st h = zR d 300 Q 1152 lv (.int 3 :: st) h := q_in rfl rfl
theorem r300_1152 : zR d 300 Q 1152 lv (.int z :: .int x :: st) h = zR d 300 Q 1153 lv (.int (x + z) :: st) h := q_in rfl rfl
theorem r300_1153 : zR d 300 Q 1153 lv (.int x :: .ref c :: st) h = zal c x h (fun w => zR d 300 Q 1154 lv (.int w :: st) h) := q_iald rfl
theorem r300_1154 : zR d 300 Q 1154 lv [.int x2, .int x1, .int x0, .ref 0] h = zM d 91 [.ref 0, .int x0, .int x1, .int x2] h (fun r h' => zR d 300 Q 1157 lv (r.toList ++ []) h') := (q_clV rfl rfl (Nat.le_of_ble_eq_true rfl)).trans (zand_t ⟨rfl, Nat.le_of_ble_eq_true rfl⟩)
theorem r300_1157 : zR d 300 Q 1157 (o0 :: o1 :: some (.ref c) :: l) st h = zR d 300 Q 1158 (o0 :: o1 :: some (.ref c) :: l) (.ref c :: st) h := q_in rfl rfl
theorem r300_1158 : zR d 300 Q 1158 (some (.ref c) :: l) st h = zR d 300 Q 1159 (some (.ref c) :: l) (.ref c :: st) h := q_in rfl rfl
theorem r300_1159 : zR d 300 Q 1159 (o0 :: o1 :: o2 :: some (.int x) :: l) st h = zR d 300 Q 1160 (o0 :: o1 :: o2 :: some (.int x) :: l) (.int x :: st) h := q_in rfl rfl
theorem r300_1160 : zR d 300 Q 1160 lv st h = zR d 300 Q 1161 lv (.int 1 :: st) h := q_in rfl rfl
theorem r300_1161 : zR d 300 Q 1161 lv (.int z :: .int x :: st) h = zR d 300 Q 1162 lv (.int (x + z) :: st) h := q_in rfl rfl
theorem r300_1162 : zR d 300 Q 1162 lv (.int x :: .ref c :: st) h = zal c x h (fun w => zR d 300 Q 1163 lv (.int w :: st) h) := q_iald rfl
theorem r300_1163 : zR d 300 Q 1163 (some (.ref c) :: l) st h = zR d 300 Q 1164 (some (.ref c) :: l) (.ref c :: st) h := q_in rfl rfl
theorem r300_1164 : zR d 300 Q 1164 (o0 :: o1 :: o2 :: some (.int x) :: l) st h = zR d 300 Q 1165 (o0 :: o1 :: o2 :: some (.int x) :: l) (.int x :: st) h := q_in rfl rfl
theorem r300_1165 : zR d 300 Q 1165 lv st h = zR d 300 Q 1166 lv (.int 2 :: st) h := q_in rfl rfl
theorem r300_1166 : zR d 300 Q 1166 lv (.int z :: .int x :: st) h = zR d 300 Q 1167 lv (.int (x + z) :: st) h := q_in rfl rfl
theorem r300_1167 : zR d 300 Q 1167 lv (.int x :: .ref c :: st) h = zal c x h (fun w => zR d 300 Q 1168 lv (.int w :: st) h) := q_iald rfl
theorem r300_1168 : zR d 300 Q 1168 (some (.ref c) :: l) st h = zR d 300 Q 1169 (some (.ref c) :: l) (.ref c :: st) h := q_in rfl rfl
theorem r300_1169 : zR d 300 Q 1169 (o0 :: o1 :: o2 :: some (.int x) :: l) st h = zR d 300 Q 1170 (o0 :: o1 :: o2 :: some (.int x) :: l) (.int x :: st) h := q_in rfl rfl
theorem r300_1170 : zR d 300 Q 1170 lv st h = zR d 300 Q 1171 lv (.int 3 :: st) h := q_in rfl rfl
theorem r300_1171 : zR d 300 Q 1171 lv (.int z :: .int x :: st) h = zR d 300 Q 1172 lv (.int (x + z) :: st) h := q_in rfl rfl
theorem r300_1172 : zR d 300 Q 1172 lv (.int x :: .ref c :: st) h = zal c x h (fun w => zR d 300 Q 1173 lv (.int w :: st) h) := q_iald rfl
theorem r300_1173 : zR d 300 Q 1173 lv [.int x2, .int x1, .int x0, .ref 60, .int y0] h = zM d 191 [.ref 60, .int x0, .int x1, .int x2] h (fun r h' => zR d 300 Q 1176 lv (r.toList ++ [.int y0]) h') := (q_clV rfl rfl (Nat.le_of_ble_eq_true rfl)).trans (zand_t ⟨rfl, Nat.le_of_ble_eq_true rfl⟩)
theorem r300_1176 : zR d 300 Q 1176 lv (.int z :: .int x :: st) h = if x = z then zR d 300 Q 1375 lv st h else zR d 300 Q 1179 lv st h := q_if rfl rfl
theorem r300_1179 : zR d 300 Q 1179 lv st h = zR d 300 Q 1180 lv (.int 0 :: st) h := q_in rfl rfl
theorem r300_1180f : zR d 300 Q 1180 lv [.int 0] h = Q (some (.int 0)) h := q_retz rfl rfl (Or.inr (Or.inl rfl))
theorem r300_1180t : zR d 300 Q 1180 lv [.int 1] h = Q (some (.int 1)) h := q_retz rfl rfl (Or.inr (Or.inr rfl))
theorem r300_1181 : zR d 300 Q 1181 (o0 :: some (.ref c) :: l) st h = zR d 300 Q 1182 (o0 :: some (.ref c) :: l) (.ref c :: st) h := q_in rfl rfl
theorem r300_1182 : zR d 300 Q 1182 (some (.ref c) :: l) st h = zR d 300 Q 1183 (some (.ref c) :: l) (.ref c :: st) h := q_in rfl rfl
theorem r300_1183 : zR d 300 Q 1183 (o0 :: o1 :: o2 :: some (.int x) :: l) st h = zR d 300 Q 1184 (o0 :: o1 :: o2 :: some (.int x) :: l) (.int x :: st) h := q_in rfl rfl
theorem r300_1184 : zR d 300 Q 1184 lv st h = zR d 300 Q 1185 lv (.int 1 :: st) h := q_in rfl rfl
theorem r300_1185 : zR d 300 Q 1185 lv (.int z :: .int x :: st) h = zR d 300 Q 1186 lv (.int (x + z) :: st) h := q_in rfl rfl
theorem r300_1186 : zR d 300 Q 1186 lv (.int x :: .ref c :: st) h = zal c x h (fun w => zR d 300 Q 1187 lv (.int w :: st) h) := q_iald rfl
theorem r300_1187 : zR d 300 Q 1187 (some (.ref c) :: l) st h = zR d 300 Q 1188 (some (.ref c) :: l) (.ref c :: st) h := q_in rfl rfl
theorem r300_1188 : zR d 300 Q 1188 (o0 :: o1 :: o2 :: some (.int x) :: l) st h = zR d 300 Q 1189 (o0 :: o1 :: o2 :: some (.int x) :: l) (.int x :: st) h := q_in rfl rfl
theorem r300_1189 : zR d 300 Q 1189 lv st h = zR d 300 Q 1190 lv (.int 2 :: st) h := q_in rfl rfl
theorem r300_1190 : zR d 300 Q 1190 lv (.int z :: .int x :: st) h = zR d 300 Q 1191 lv (.int (x + z) :: st) h := q_in rfl rfl
theorem r300_1191 : zR d 300 Q 1191 lv (.int x :: .ref c :: st) h = zal c x h (fun w => zR d 300 Q 1192 lv (.int w :: st) h) := q_iald rfl
theorem r300_1192 : zR d 300 Q 1192 lv [.int x1, .int x0, .ref 0] h = zM d 92 [.ref 0, .int x0, .int x1] h (fun r h' => zR d 300 Q 1195 lv (r.toList ++ []) h') := (q_clV rfl rfl (Nat.le_of_ble_eq_true rfl)).trans (zand_t ⟨rfl, Nat.le_of_ble_eq_true rfl⟩)
theorem r300_1195 : zR d 300 Q 1195 (o0 :: o1 :: some (.ref c) :: l) st h = zR d 300 Q 1196 (o0 :: o1 :: some (.ref c) :: l) (.ref c :: st) h := q_in rfl rfl
theorem r300_1196 : zR d 300 Q 1196 (some (.ref c) :: l) st h = zR d 300 Q 1197 (some (.ref c) :: l) (.ref c :: st) h := q_in rfl rfl
theorem r300_1197 : zR d 300 Q 1197 (o0 :: o1 :: o2 :: some (.int x) :: l) st h = zR d 300 Q 1198 (o0 :: o1 :: o2 :: some (.int x) :: l) (.int x :: st) h := q_in rfl rfl
theorem r300_1198 : zR d 300 Q 1198 lv st h = zR d 300 Q 1199 lv (.int 1 :: st) h := q_in rfl rfl
theorem r300_1199 : zR d 300 Q 1199 lv (.int z :: .int x :: st) h = zR d 300 Q 1200 lv (.int (x + z) :: st) h := q_in rfl rfl
theorem r300_1200 : zR d 300 Q 1200 lv (.int x :: .ref c :: st) h = zal c x h (fun w => zR d 300 Q 1201 lv (.int w :: st) h) := q_iald rfl
theorem r300_1201 : zR d 300 Q 1201 (some (.ref c) :: l) st h = zR d 300 Q 1202 (some (.ref c) :: l) (.ref c :: st) h := q_in rfl rfl
theorem r300_1202 : zR d 300 Q 1202 (o0 :: o1 :: o2 :: some (.int x) :: l) st h = zR d 300 Q 1203 (o0 :: o1 :: o2 :: some (.int x) :: l) (.int x :: st) h := q_in rfl rfl
theorem r300_1203 : zR d 300 Q 1203 lv st h = zR d 300 Q 1204 lv (.int 2 :: st) h := q_in rfl rfl
theorem r300_1204 : zR d 300 Q 1204 lv (.int z :: .int x :: st) h = zR d 300 Q 1205 lv (.int (x + z) :: st) h := q_in rfl rfl
theorem r300_1205 : zR d 300 Q 1205 lv (.int x :: .ref c :: st) h = zal c x h (fun w => zR d 300 Q 1206 lv (.int w :: st) h) := q_iald rfl
theorem r300_1206 : zR d 300 Q 1206 lv [.int x1, .int x0, .ref 60, .int y0] h = zM d 192 [.ref 60, .int x0, .int x1] h (fun r h' => zR d 300 Q 1209 lv (r.toList ++ [.int y0]) h') := (q_clV rfl rfl (Nat.le_of_ble_eq_true rfl)).trans (zand_t ⟨rfl, Nat.le_of_ble_eq_true rfl⟩)
theorem r300_1209 : zR d 300 Q 1209 lv (.int z :: .int x :: st) h = if x = z then zR d 300 Q 1375 lv st h else zR d 300 Q 1212 lv st h := q_if rfl rfl
theorem r300_1212 : zR d 300 Q 1212 lv st h = zR d 300 Q 1213 lv (.int 0 :: st) h := q_in rfl rfl
theorem r300_1213f : zR d 300 Q 1213 lv [.int 0] h = Q (some (.int 0)) h := q_retz rfl rfl (Or.inr (Or.inl rfl))
theorem r300_1213t : zR d 300 Q 1213 lv [.int 1] h = Q (some (.int 1)) h := q_retz rfl rfl (Or.inr (Or.inr rfl))
theorem r300_1214 : zR d 300 Q 1214 (o0 :: some (.ref c) :: l) st h = zR d 300 Q 1215 (o0 :: some (.ref c) :: l) (.ref c :: st) h := q_in rfl rfl
theorem r300_1215 : zR d 300 Q 1215 (some (.ref c) :: l) st h = zR d 300 Q 1216 (some (.ref c) :: l) (.ref c :: st) h := q_in rfl rfl
theorem r300_1216 : zR d 300 Q 1216 (o0 :: o1 :: o2 :: some (.int x) :: l) st h = zR d 300 Q 1217 (o0 :: o1 :: o2 :: some (.int x) :: l) (.int x :: st) h := q_in rfl rfl
theorem r300_1217 : zR d 300 Q 1217 lv st h = zR d 300 Q 1218 lv (.int 1 :: st) h := q_in rfl rfl
theorem r300_1218 : zR d 300 Q 1218 lv (.int z :: .int x :: st) h = zR d 300 Q 1219 lv (.int (x + z) :: st) h := q_in rfl rfl
theorem r300_1219 : zR d 300 Q 1219 lv (.int x :: .ref c :: st) h = zal c x h (fun w => zR d 300 Q 1220 lv (.int w :: st) h) := q_iald rfl
theorem r300_1220 : zR d 300 Q 1220 (some (.ref c) :: l) st h = zR d 300 Q 1221 (some (.ref c) :: l) (.ref c :: st) h := q_in rfl rfl
theorem r300_1221 : zR d 300 Q 1221 (o0 :: o1 :: o2 :: some (.int x) :: l) st h = zR d 300 Q 1222 (o0 :: o1 :: o2 :: some (.int x) :: l) (.int x :: st) h := q_in rfl rfl
theorem r300_1222 : zR d 300 Q 1222 lv st h = zR d 300 Q 1223 lv (.int 2 :: st) h := q_in rfl rfl
theorem r300_1223 : zR d 300 Q 1223 lv (.int z :: .int x :: st) h = zR d 300 Q 1224 lv (.int (x + z) :: st) h := q_in rfl rfl
theorem r300_1224 : zR d 300 Q 1224 lv (.int x :: .ref c :: st) h = zal c x h (fun w => zR d 300 Q 1225 lv (.int w :: st) h) := q_iald rfl
theorem r300_1225 : zR d 300 Q 1225 lv [.int x1, .int x0, .ref 0] h = zM d 93 [.ref 0, .int x0, .int x1] h (fun r h' => zR d 300 Q 1228 lv (r.toList ++ []) h') := (q_clV rfl rfl (Nat.le_of_ble_eq_true rfl)).trans (zand_t ⟨rfl, Nat.le_of_ble_eq_true rfl⟩)
theorem r300_1228 : zR d 300 Q 1228 (o0 :: o1 :: some (.ref c) :: l) st h = zR d 300 Q 1229 (o0 :: o1 :: some (.ref c) :: l) (.ref c :: st) h := q_in rfl rfl
theorem r300_1229 : zR d 300 Q 1229 (some (.ref c) :: l) st h = zR d 300 Q 1230 (some (.ref c) :: l) (.ref c :: st) h := q_in rfl rfl
theorem r300_1230 : zR d 300 Q 1230 (o0 :: o1 :: o2 :: some (.int x) :: l) st h = zR d 300 Q 1231 (o0 :: o1 :: o2 :: some (.int x) :: l) (.int x :: st) h := q_in rfl rfl
theorem r300_1231 : zR d 300 Q 1231 lv st h = zR d 300 Q 1232 lv (.int 1 :: st) h := q_in rfl rfl
theorem r300_1232 : zR d 300 Q 1232 lv (.int z :: .int x :: st) h = zR d 300 Q 1233 lv (.int (x + z) :: st) h := q_in rfl rfl
theorem r300_1233 : zR d 300 Q 1233 lv (.int x :: .ref c :: st) h = zal c x h (fun w => zR d 300 Q 1234 lv (.int w :: st) h) := q_iald rfl
theorem r300_1234 : zR d 300 Q 1234 (some (.ref c) :: l) st h = zR d 300 Q 1235 (some (.ref c) :: l) (.ref c :: st) h := q_in rfl rfl
theorem r300_1235 : zR d 300 Q 1235 (o0 :: o1 :: o2 :: some (.int x) :: l) st h = zR d 300 Q 1236 (o0 :: o1 :: o2 :: some (.int x) :: l) (.int x :: st) h := q_in rfl rfl
theorem r300_1236 : zR d 300 Q 1236 lv st h = zR d 300 Q 1237 lv (.int 2 :: st) h := q_in rfl rfl
theorem r300_1237 : zR d 300 Q 1237 lv (.int z :: .int x :: st) h = zR d 300 Q 1238 lv (.int (x + z) :: st) h := q_in rfl rfl
theorem r300_1238 : zR d 300 Q 1238 lv (.int x :: .ref c :: st) h = zal c x h (fun w => zR d 300 Q 1239 lv (.int w :: st) h) := q_iald rfl
theorem r300_1239 : zR d 300 Q 1239 lv [.int x1, .int x0, .ref 60, .int y0] h = zM d 193 [.ref 60, .int x0, .int x1] h (fun r h' => zR d 300 Q 1242 lv (r.toList ++ [.int y0]) h') := (q_clV rfl rfl (Nat.le_of_ble_eq_true rfl)).trans (zand_t ⟨rfl, Nat.le_of_ble_eq_true rfl⟩)
theorem r300_1242 : zR d 300 Q 1242 lv (.int z :: .int x :: st) h = if x = z then zR d 300 Q 1375 lv st h else zR d 300 Q 1245 lv st h := q_if rfl rfl
theorem r300_1245 : zR d 300 Q 1245 lv st h = zR d 300 Q 1246 lv (.int 0 :: st) h := q_in rfl rfl
theorem r300_1246f : zR d 300 Q 1246 lv [.int 0] h = Q (some (.int 0)) h := q_retz rfl rfl (Or.inr (Or.inl rfl))
theorem r300_1246t : zR d 300 Q 1246 lv [.int 1] h = Q (some (.int 1)) h := q_retz rfl rfl (Or.inr (Or.inr rfl))
theorem r300_1247 : zR d 300 Q 1247 (o0 :: some (.ref c) :: l) st h = zR d 300 Q 1248 (o0 :: some (.ref c) :: l) (.ref c :: st) h := q_in rfl rfl
theorem r300_1248 : zR d 300 Q 1248 (some (.ref c) :: l) st h = zR d 300 Q 1249 (some (.ref c) :: l) (.ref c :: st) h := q_in rfl rfl
theorem r300_1249 : zR d 300 Q 1249 (o0 :: o1 :: o2 :: some (.int x) :: l) st h = zR d 300 Q 1250 (o0 :: o1 :: o2 :: some (.int x) :: l) (.int x :: st) h := q_in rfl rfl
theorem r300_1250 : zR d 300 Q 1250 lv st h = zR d 300 Q 1251 lv (.int 1 :: st) h := q_in rfl rfl
theorem r300_1251 : zR d 300 Q 1251 lv (.int z :: .int x :: st) h = zR d 300 Q 1252 lv (.int (x + z) :: st) h := q_in rfl rfl
theorem r300_1252 : zR d 300 Q 1252 lv (.int x :: .ref c :: st) h = zal c x h (fun w => zR d 300 Q 1253 lv (.int w :: st) h) := q_iald rfl
theorem r300_1253 : zR d 300 Q 1253 (some (.ref c) :: l) st h = zR d 300 Q 1254 (some (.ref c) :: l) (.ref c :: st) h := q_in rfl rfl
theorem r300_1254 : zR d 300 Q 1254 (o0 :: o1 :: o2 :: some (.int x) :: l) st h = zR d 300 Q 1255 (o0 :: o1 :: o2 :: some (.int x) :: l) (.int x :: st) h := q_in rfl rfl
theorem r300_1255 : zR d 300 Q 1255 lv st h = zR d 300 Q 1256 lv (.int 2 :: st) h := q_in rfl rfl
theorem r300_1256 : zR d 300 Q 1256 lv (.int z :: .int x :: st) h = zR d 300 Q 1257 lv (.int (x + z) :: st) h := q_in rfl rfl
theorem r300_1257 : zR d 300 Q 1257 lv (.int x :: .ref c :: st) h = zal c x h (fun w => zR d 300 Q 1258 lv (.int w :: st) h) := q_iald rfl
theorem r300_1258 : zR d 300 Q 1258 lv [.int x1, .int x0, .ref 0] h = zM d 94 [.ref 0, .int x0, .int x1] h (fun r h' => zR d 300 Q 1261 lv (r.toList ++ []) h') := (q_clV rfl rfl (Nat.le_of_ble_eq_true rfl)).trans (zand_t ⟨rfl, Nat.le_of_ble_eq_true rfl⟩)
theorem r300_1261 : zR d 300 Q 1261 (o0 :: o1 :: some (.ref c) :: l) st h = zR d 300 Q 1262 (o0 :: o1 :: some (.ref c) :: l) (.ref c :: st) h := q_in rfl rfl
theorem r300_1262 : zR d 300 Q 1262 (some (.ref c) :: l) st h = zR d 300 Q 1263 (some (.ref c) :: l) (.ref c :: st) h := q_in rfl rfl
theorem r300_1263 : zR d 300 Q 1263 (o0 :: o1 :: o2 :: some (.int x) :: l) st h = zR d 300 Q 1264 (o0 :: o1 :: o2 :: some (.int x) :: l) (.int x :: st) h := q_in rfl rfl
theorem r300_1264 : zR d 300 Q 1264 lv st h = zR d 300 Q 1265 lv (.int 1 :: st) h := q_in rfl rfl
theorem r300_1265 : zR d 300 Q 1265 lv (.int z :: .int x :: st) h = zR d 300 Q 1266 lv (.int (x + z) :: st) h := q_in rfl rfl
theorem r300_1266 : zR d 300 Q 1266 lv (.int x :: .ref c :: st) h = zal c x h (fun w => zR d 300 Q 1267 lv (.int w :: st) h) := q_iald rfl
theorem r300_1267 : zR d 300 Q 1267 (some (.ref c) :: l) st h = zR d 300 Q 1268 (some (.ref c) :: l) (.ref c :: st) h := q_in rfl rfl
theorem r300_1268 : zR d 300 Q 1268 (o0 :: o1 :: o2 :: some (.int x) :: l) st h = zR d 300 Q 1269 (o0 :: o1 :: o2 :: some (.int x) :: l) (.int x :: st) h := q_in rfl rfl
theorem r300_1269 : zR d 300 Q 1269 lv st h = zR d 300 Q 1270 lv (.int 2 :: st) h := q_in rfl rfl
theorem r300_1270 : zR d 300 Q 1270 lv (.int z :: .int x :: st) h = zR d 300 Q 1271 lv (.int (x + z) :: st) h := q_in rfl rfl
theorem r300_1271 : zR d 300 Q 1271 lv (.int x :: .ref c :: st) h = zal c x h (fun w => zR d 300 Q 1272 lv (.int w :: st) h) := q_iald rfl
theorem r300_1272 : zR d 300 Q 1272 lv [.int x1, .int x0, .ref 60, .int y0] h = zM d 194 [.ref 60, .int x0, .int x1] h (fun r h' => zR d 300 Q 1275 lv (r.toList ++ [.int y0]) h') := (q_clV rfl rfl (Nat.le_of_ble_eq_true rfl)).trans (zand_t ⟨rfl, Nat.le_of_ble_eq_true rfl⟩)
theorem r300_1275 : zR d 300 Q 1275 lv (.int z :: .int x :: st) h = if x = z then zR d 300 Q 1375 lv st h else zR d 300 Q 1278 lv st h := q_if rfl rfl
theorem r300_1278 : zR d 300 Q 1278 lv st h = zR d 300 Q 1279 lv (.int 0 :: st) h := q_in rfl rfl
theorem r300_1279f : zR d 300 Q 1279 lv [.int 0] h = Q (some (.int 0)) h := q_retz rfl rfl (Or.inr (Or.inl rfl))
theorem r300_1279t : zR d 300 Q 1279 lv [.int 1] h = Q (some (.int 1)) h := q_retz rfl rfl (Or.inr (Or.inr rfl))
theorem r300_1280 : zR d 300 Q 1280 (o0 :: some (.ref c) :: l) st h = zR d 300 Q 1281 (o0 :: some (.ref c) :: l) (.ref c :: st) h := q_in rfl rfl
theorem r300_1281 : zR d 300 Q 1281 (some (.ref c) :: l) st h = zR d 300 Q 1282 (some (.ref c) :: l) (.ref c :: st) h := q_in rfl rfl
theorem r300_1282 : zR d 300 Q 1282 (o0 :: o1 :: o2 :: some (.int x) :: l) st h = zR d 300 Q 1283 (o0 :: o1 :: o2 :: some (.int x) :: l) (.int x :: st) h := q_in rfl rfl
theorem r300_1283 : zR d 300 Q 1283 lv st h = zR d 300 Q 1284 lv (.int 1 :: st) h := q_in rfl rfl
theorem r300_1284 : zR d 300 Q 1284 lv (.int z :: .int x :: st) h = zR d 300 Q 1285 lv (.int (x + z) :: st) h := q_in rfl rfl
theorem r300_1285 : zR d 300 Q 1285 lv (.int x :: .ref c :: st) h = zal c x h (fun w => zR d 300 Q 1286 lv (.int w :: st) h) := q_iald rfl
theorem r300_1286 : zR d 300 Q 1286 lv [.int x0, .ref 0] h = zM d 97 [.ref 0, .int x0] h (fun r h' => zR d 300 Q 1289 lv (r.toList ++ []) h') := (q_clV rfl rfl (Nat.le_of_ble_eq_true rfl)).trans (zand_t ⟨rfl, Nat.le_of_ble_eq_true rfl⟩)
theorem r300_1289 : zR d 300 Q 1289 (o0 :: o1 :: some (.ref c) :: l) st h = zR d 300 Q 1290 (o0 :: o1 :: some (.ref c) :: l) (.ref c :: st) h := q_in rfl rfl
theorem r300_1290 : zR d 300 Q 1290 (some (.ref c) :: l) st h = zR d 300 Q 1291 (some (.ref c) :: l) (.ref c :: st) h := q_in rfl rfl
theorem r300_1291 : zR d 300 Q 1291 (o0 :: o1 :: o2 :: some (.int x) :: l) st h = zR d 300 Q 1292 (o0 :: o1 :: o2 :: some (.int x) :: l) (.int x :: st) h := q_in rfl rfl
theorem r300_1292 : zR d 300 Q 1292 lv st h = zR d 300 Q 1293 lv (.int 1 :: st) h := q_in rfl rfl
theorem r300_1293 : zR d 300 Q 1293 lv (.int z :: .int x :: st) h = zR d 300 Q 1294 lv (.int (x + z) :: st) h := q_in rfl rfl
theorem r300_1294 : zR d 300 Q 1294 lv (.int x :: .ref c :: st) h = zal c x h (fun w => zR d 300 Q 1295 lv (.int w :: st) h) := q_iald rfl
theorem r300_1295 : zR d 300 Q 1295 lv [.int x0, .ref 60, .int y0] h = zM d 195 [.ref 60, .int x0] h (fun r h' => zR d 300 Q 1298 lv (r.toList ++ [.int y0]) h') := (q_clV rfl rfl (Nat.le_of_ble_eq_true rfl)).trans (zand_t ⟨rfl, Nat.le_of_ble_eq_true rfl⟩)
theorem r300_1298 : zR d 300 Q 1298 lv (.int z :: .int x :: st) h = if x = z then zR d 300 Q 1375 lv st h else zR d 300 Q 1301 lv st h := q_if rfl rfl
theorem r300_1301 : zR d 300 Q 1301 lv st h = zR d 300 Q 1302 lv (.int 0 :: st) h := q_in rfl rfl
theorem r300_1302f : zR d 300 Q 1302 lv [.int 0] h = Q (some (.int 0)) h := q_retz rfl rfl (Or.inr (Or.inl rfl))
theorem r300_1302t : zR d 300 Q 1302 lv [.int 1] h = Q (some (.int 1)) h := q_retz rfl rfl (Or.inr (Or.inr rfl))
theorem r300_1303 : zR d 300 Q 1303 (o0 :: some (.ref c) :: l) st h = zR d 300 Q 1304 (o0 :: some (.ref c) :: l) (.ref c :: st) h := q_in rfl rfl
theorem r300_1304 : zR d 300 Q 1304 (some (.ref c) :: l) st h = zR d 300 Q 1305 (some (.ref c) :: l) (.ref c :: st) h := q_in rfl rfl
theorem r300_1305 : zR d 300 Q 1305 (o0 :: o1 :: o2 :: some (.int x) :: l) st h = zR d 300 Q 1306 (o0 :: o1 :: o2 :: some (.int x) :: l) (.int x :: st) h := q_in rfl rfl
theorem r300_1306 : zR d 300 Q 1306 lv st h = zR d 300 Q 1307 lv (.int 1 :: st) h := q_in rfl rfl
theorem r300_1307 : zR d 300 Q 1307 lv (.int z :: .int x :: st) h = zR d 300 Q 1308 lv (.int (x + z) :: st) h := q_in rfl rfl
theorem r300_1308 : zR d 300 Q 1308 lv (.int x :: .ref c :: st) h = zal c x h (fun w => zR d 300 Q 1309 lv (.int w :: st) h) := q_iald rfl
theorem r300_1309 : zR d 300 Q 1309 lv [.int x0, .ref 0] h = zM d 98 [.ref 0, .int x0] h (fun r h' => zR d 300 Q 1312 lv (r.toList ++ []) h') := (q_clV rfl rfl (Nat.le_of_ble_eq_true rfl)).trans (zand_t ⟨rfl, Nat.le_of_ble_eq_true rfl⟩)
theorem r300_1312 : zR d 300 Q 1312 (o0 :: o1 :: some (.ref c) :: l) st h = zR d 300 Q 1313 (o0 :: o1 :: some (.ref c) :: l) (.ref c :: st) h := q_in rfl rfl
theorem r300_1313 : zR d 300 Q 1313 (some (.ref c) :: l) st h = zR d 300 Q 1314 (some (.ref c) :: l) (.ref c :: st) h := q_in rfl rfl
theorem r300_1314 : zR d 300 Q 1314 (o0 :: o1 :: o2 :: some (.int x) :: l) st h = zR d 300 Q 1315 (o0 :: o1 :: o2 :: some (.int x) :: l) (.int x :: st) h := q_in rfl rfl
theorem r300_1315 : zR d 300 Q 1315 lv st h = zR d 300 Q 1316 lv (.int 1 :: st) h := q_in rfl rfl
theorem r300_1316 : zR d 300 Q 1316 lv (.int z :: .int x :: st) h = zR d 300 Q 1317 lv (.int (x + z) :: st) h := q_in rfl rfl
theorem r300_1317 : zR d 300 Q 1317 lv (.int x :: .ref c :: st) h = zal c x h (fun w => zR d 300 Q 1318 lv (.int w :: st) h) := q_iald rfl
theorem r300_1318 : zR d 300 Q 1318 lv [.int x0, .ref 60, .int y0] h = zM d 197 [.ref 60, .int x0] h (fun r h' => zR d 300 Q 1321 lv (r.toList ++ [.int y0]) h') := (q_clV rfl rfl (Nat.le_of_ble_eq_true rfl)).trans (zand_t ⟨rfl, Nat.le_of_ble_eq_true rfl⟩)
theorem r300_1321 : zR d 300 Q 1321 lv (.int z :: .int x :: st) h = if x = z then zR d 300 Q 1375 lv st h else zR d 300 Q 1324 lv st h := q_if rfl rfl
theorem r300_1324 : zR d 300 Q 1324 lv st h = zR d 300 Q 1325 lv (.int 0 :: st) h := q_in rfl rfl
theorem r300_1325f : zR d 300 Q 1325 lv [.int 0] h = Q (some (.int 0)) h := q_retz rfl rfl (Or.inr (Or.inl rfl))
theorem r300_1325t : zR d 300 Q 1325 lv [.int 1] h = Q (some (.int 1)) h := q_retz rfl rfl (Or.inr (Or.inr rfl))
theorem r300_1326 : zR d 300 Q 1326 (o0 :: some (.ref c) :: l) st h = zR d 300 Q 1327 (o0 :: some (.ref c) :: l) (.ref c :: st) h := q_in rfl rfl
theorem r300_1327 : zR d 300 Q 1327 lv [.ref 0] h = zM d 100 [.ref 0] h (fun r h' => zR d 300 Q 1330 lv (r.toList ++ []) h') := (q_clV rfl rfl (Nat.le_of_ble_eq_true rfl)).trans (zand_t ⟨rfl, Nat.le_of_ble_eq_true rfl⟩)
theorem r300_1330 : zR d 300 Q 1330 (o0 :: o1 :: some (.ref c) :: l) st h = zR d 300 Q 1331 (o0 :: o1 :: some (.ref c) :: l) (.ref c :: st) h := q_in rfl rfl
theorem r300_1331 : zR d 300 Q 1331 lv [.ref 60, .int y0] h = zM d 198 [.ref 60] h (fun r h' => zR d 300 Q 1334 lv (r.toList ++ [.int y0]) h') := (q_clV rfl rfl (Nat.le_of_ble_eq_true rfl)).trans (zand_t ⟨rfl, Nat.le_of_ble_eq_true rfl⟩)
theorem r300_1334 : zR d 300 Q 1334 lv (.int z :: .int x :: st) h = if x = z then zR d 300 Q 1375 lv st h else zR d 300 Q 1337 lv st h := q_if rfl rfl
theorem r300_1337 : zR d 300 Q 1337 lv st h = zR d 300 Q 1338 lv (.int 0 :: st) h := q_in rfl rfl
theorem r300_1338f : zR d 300 Q 1338 lv [.int 0] h = Q (some (.int 0)) h := q_retz rfl rfl (Or.inr (Or.inl rfl))
theorem r300_1338t : zR d 300 Q 1338 lv [.int 1] h = Q (some (.int 1)) h := q_retz rfl rfl (Or.inr (Or.inr rfl))
theorem r300_1339 : zR d 300 Q 1339 (o0 :: some (.ref c) :: l) st h = zR d 300 Q 1340 (o0 :: some (.ref c) :: l) (.ref c :: st) h := q_in rfl rfl
theorem r300_1340 : zR d 300 Q 1340 lv [.ref 0] h = zM d 101 [.ref 0] h (fun r h' => zR d 300 Q 1343 lv (r.toList ++ []) h') := (q_clV rfl rfl (Nat.le_of_ble_eq_true rfl)).trans (zand_t ⟨rfl, Nat.le_of_ble_eq_true rfl⟩)
theorem r300_1343 : zR d 300 Q 1343 (o0 :: o1 :: some (.ref c) :: l) st h = zR d 300 Q 1344 (o0 :: o1 :: some (.ref c) :: l) (.ref c :: st) h := q_in rfl rfl
theorem r300_1344 : zR d 300 Q 1344 lv [.ref 60, .int y0] h = zM d 199 [.ref 60] h (fun r h' => zR d 300 Q 1347 lv (r.toList ++ [.int y0]) h') := (q_clV rfl rfl (Nat.le_of_ble_eq_true rfl)).trans (zand_t ⟨rfl, Nat.le_of_ble_eq_true rfl⟩)
theorem r300_1347 : zR d 300 Q 1347 lv (.int z :: .int x :: st) h = if x = z then zR d 300 Q 1375 lv st h else zR d 300 Q 1350 lv st h := q_if rfl rfl
theorem r300_1350 : zR d 300 Q 1350 lv st h = zR d 300 Q 1351 lv (.int 0 :: st) h := q_in rfl rfl
theorem r300_1351f : zR d 300 Q 1351 lv [.int 0] h = Q (some (.int 0)) h := q_retz rfl rfl (Or.inr (Or.inl rfl))
theorem r300_1351t : zR d 300 Q 1351 lv [.int 1] h = Q (some (.int 1)) h := q_retz rfl rfl (Or.inr (Or.inr rfl))
theorem r300_1352 : zR d 300 Q 1352 (o0 :: some (.ref c) :: l) st h = zR d 300 Q 1353 (o0 :: some (.ref c) :: l) (.ref c :: st) h := q_in rfl rfl
theorem r300_1353 : zR d 300 Q 1353 (some (.ref c) :: l) st h = zR d 300 Q 1354 (some (.ref c) :: l) (.ref c :: st) h := q_in rfl rfl
theorem r300_1354 : zR d 300 Q 1354 (o0 :: o1 :: o2 :: some (.int x) :: l) st h = zR d 300 Q 1355 (o0 :: o1 :: o2 :: some (.int x) :: l) (.int x :: st) h := q_in rfl rfl
theorem r300_1355 : zR d 300 Q 1355 lv st h = zR d 300 Q 1356 lv (.int 1 :: st) h := q_in rfl rfl
theorem r300_1356 : zR d 300 Q 1356 lv (.int z :: .int x :: st) h = zR d 300 Q 1357 lv (.int (x + z) :: st) h := q_in rfl rfl
theorem r300_1357 : zR d 300 Q 1357 lv (.int x :: .ref c :: st) h = zal c x h (fun w => zR d 300 Q 1358 lv (.int w :: st) h) := q_iald rfl
theorem r300_1358 : zR d 300 Q 1358 lv [.int x0, .ref 0] h = zM d 102 [.ref 0, .int x0] h (fun r h' => zR d 300 Q 1361 lv (r.toList ++ []) h') := (q_clV rfl rfl (Nat.le_of_ble_eq_true rfl)).trans (zand_t ⟨rfl, Nat.le_of_ble_eq_true rfl⟩)
theorem r300_1361 : zR d 300 Q 1361 (o0 :: o1 :: some (.ref c) :: l) st h = zR d 300 Q 1362 (o0 :: o1 :: some (.ref c) :: l) (.ref c :: st) h := q_in rfl rfl
theorem r300_1362 : zR d 300 Q 1362 (some (.ref c) :: l) st h = zR d 300 Q 1363 (some (.ref c) :: l) (.ref c :: st) h := q_in rfl rfl
theorem r300_1363 : zR d 300 Q 1363 (o0 :: o1 :: o2 :: some (.int x) :: l) st h = zR d 300 Q 1364 (o0 :: o1 :: o2 :: some (.int x) :: l) (.int x :: st) h := q_in rfl rfl
theorem r300_1364 : zR d 300 Q 1364 lv st h = zR d 300 Q 1365 lv (.int 1 :: st) h := q_in rfl rfl
theorem r300_1365 : zR d 300 Q 1365 lv (.int z :: .int x :: st) h = zR d 300 Q 1366 lv (.int (x + z) :: st) h := q_in rfl rfl
theorem r300_1366 : zR d 300 Q 1366 lv (.int x :: .ref c :: st) h = zal c x h (fun w => zR d 300 Q 1367 lv (.int w :: st) h) := q_iald rfl
theorem r300_1367 : zR d 300 Q 1367 lv [.int x0, .ref 60, .int y0] h = zM d 200 [.ref 60, .int x0] h (fun r h' => zR d 300 Q 1370 lv (r.toList ++ [.int y0]) h') := (q_clV rfl rfl (Nat.le_of_ble_eq_true rfl)).trans (zand_t ⟨rfl, Nat.le_of_ble_eq_true rfl⟩)
theorem r300_1370 : zR d 300 Q 1370 lv (.int z :: .int x :: st) h = if x = z then zR d 300 Q 1375 lv st h else zR d 300 Q 1373 lv st h := q_if rfl rfl
theorem r300_1373 : zR d 300 Q 1373 lv st h = zR d 300 Q 1374 lv (.int 0 :: st) h := q_in rfl rfl
theorem r300_1374f : zR d 300 Q 1374 lv [.int 0] h = Q (some (.int 0)) h := q_retz rfl rfl (Or.inr (Or.inl rfl))
theorem r300_1374t : zR d 300 Q 1374 lv [.int 1] h = Q (some (.int 1)) h := q_retz rfl rfl (Or.inr (Or.inr rfl))
theorem r300_1375 : zR d 300 Q 1375 (o0 :: o1 :: o2 :: some (.int x) :: l) st h = zR d 300 Q 1378 (o0 :: o1 :: o2 :: some (.int (x + 6)) :: l) st h := q_in rfl rfl
theorem r300_1378 : zR d 300 Q 1378 lv st h = zR d 300 Q 18 lv st h := q_in rfl rfl
theorem r300_1381 : zR d 300 Q 1381 lv st h = zR d 300 Q 1382 lv (.int 1 :: st) h := q_in rfl rfl
theorem r300_1382f : zR d 300 Q 1382 lv [.int 0] h = Q (some (.int 0)) h := q_retz rfl rfl (Or.inr (Or.inl rfl))
theorem r300_1382t : zR d 300 Q 1382 lv [.int 1] h = Q (some (.int 1)) h := q_retz rfl rfl (Or.inr (Or.inr rfl))
end
