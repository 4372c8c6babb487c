/-! the law, an equation an instruction -/
section
variable {d : Nat} {Q : Option Value → zH → Prop} {lv l : zL} {st : zS} {h : zH} {x z : Int32} {c : Nat} {i j : Int64} {o0 o1 o2 o3 o4 o5 o6 o7 o8 o9 o10 o11 o12 : Option Value} {x0 x1 x2 x3 x4 y0 y1 y2 y3 : Int32} {c0 c1 c2 c3 c4 a0 a1 a2 a3 : Nat} {j0 j1 j2 k0 k1 : Int64}

theorem r300_16 : zR d 300 Q 16 lv st h = zR d 300 Q 17 lv (.int 0 :: st) h := q_in rfl rfl
theorem r300_17 : zR d 300 Q 17 (o0 :: o1 :: o2 :: o3 :: l) (.int x :: st) h = zR d 300 Q 18 (o0 :: o1 :: o2 :: some (.int x) :: l) st h := q_in rfl rfl
theorem r300_18 : zR d 300 Q 18 (o0 :: o1 :: o2 :: some (.int x) :: l) st h = zR d 300 Q 19 (o0 :: o1 :: o2 :: some (.int x) :: l) (.int x :: st) h := q_in rfl rfl
theorem r300_19 : zR d 300 Q 19 (some (.ref c) :: l) st h = zR d 300 Q 20 (some (.ref c) :: l) (.ref c :: st) h := q_in rfl rfl
theorem r300_20 : zR d 300 Q 20 lv (.ref c :: st) h = zan c h (fun w => zR d 300 Q 21 lv (.int w :: st) h) := q_alen rfl
theorem r300_21 : zR d 300 Q 21 lv st h = zR d 300 Q 23 lv (.int 6 :: st) h := q_in rfl rfl
theorem r300_23 : zR d 300 Q 23 lv (.int z :: .int x :: st) h = zR d 300 Q 24 lv (.int (x - z) :: st) h := q_in rfl rfl
theorem r300_24 : zR d 300 Q 24 lv (.int z :: .int x :: st) h = if x ≤ z then zR d 300 Q 27 lv st h else zR d 300 Q 1381 lv st h := q_if rfl rfl
theorem r300_27 : zR d 300 Q 27 (some (.ref c) :: l) st h = zR d 300 Q 28 (some (.ref c) :: l) (.ref c :: st) h := q_in rfl rfl
theorem r300_28 : zR d 300 Q 28 (o0 :: o1 :: o2 :: some (.int x) :: l) st h = zR d 300 Q 29 (o0 :: o1 :: o2 :: some (.int x) :: l) (.int x :: st) h := q_in rfl rfl
theorem r300_29 : zR d 300 Q 29 lv (.int x :: .ref c :: st) h = zal c x h (fun w => zR d 300 Q 30 lv (.int w :: st) h) := q_iald rfl
theorem r300_30 : zR d 300 Q 30 lv st h = zR d 300 Q 32 lv (.int 63 :: st) h := q_in rfl rfl
theorem r300_32 : zR d 300 Q 32 lv (.int z :: .int x :: st) h = zR d 300 Q 33 lv (.int (x &&& z) :: st) h := q_in rfl rfl
theorem r300_33 : zR d 300 Q 33 lv (.int x :: st) h = if x = 0 then zR d 300 Q 212 lv st h else if x = 1 then zR d 300 Q 255 lv st h else if x = 2 then zR d 300 Q 288 lv st h else if x = 3 then zR d 300 Q 321 lv st h else if x = 4 then zR d 300 Q 354 lv st h else if x = 5 then zR d 300 Q 397 lv st h else if x = 6 then zR d 300 Q 420 lv st h else if x = 7 then zR d 300 Q 453 lv st h else if x = 8 then zR d 300 Q 476 lv st h else if x = 9 then zR d 300 Q 489 lv st h else if x = 10 then zR d 300 Q 512 lv st h else if x = 11 then zR d 300 Q 535 lv st h else if x = 12 then zR d 300 Q 558 lv st h else if x = 13 then zR d 300 Q 581 lv st h else if x = 14 then zR d 300 Q 594 lv st h else if x = 15 then zR d 300 Q 617 lv st h else if x = 16 then zR d 300 Q 650 lv st h else if x = 17 then zR d 300 Q 683 lv st h else if x = 18 then zR d 300 Q 716 lv st h else if x = 19 then zR d 300 Q 749 lv st h else if x = 20 then zR d 300 Q 762 lv st h else if x = 21 then zR d 300 Q 795 lv st h else if x = 22 then zR d 300 Q 808 lv st h else if x = 23 then zR d 300 Q 851 lv st h else if x = 24 then zR d 300 Q 874 lv st h else if x = 25 then zR d 300 Q 887 lv st h else if x = 26 then zR d 300 Q 920 lv st h else if x = 27 then zR d 300 Q 943 lv st h else if x = 28 then zR d 300 Q 986 lv st h else if x = 29 then zR d 300 Q 1029 lv st h else if x = 30 then zR d 300 Q 1052 lv st h else if x = 31 then zR d 300 Q 1075 lv st h else if x = 32 then zR d 300 Q 1138 lv st h else if x = 33 then zR d 300 Q 1181 lv st h else if x = 34 then zR d 300 Q 1214 lv st h else if x = 35 then zR d 300 Q 1247 lv st h else if x = 36 then zR d 300 Q 1280 lv st h else if x = 37 then zR d 300 Q 1303 lv st h else if x = 38 then zR d 300 Q 1326 lv st h else if x = 39 then zR d 300 Q 1339 lv st h else if x = 40 then zR d 300 Q 1352 lv st h else zR d 300 Q 1375 lv st h := (q_in rfl rfl).trans (by simp only [zsw, zR_ite])
theorem r300_212 : zR d 300 Q 212 (o0 :: some (.ref c) :: l) st h = zR d 300 Q 213 (o0 :: some (.ref c) :: l) (.ref c :: st) h := q_in rfl rfl
theorem r300_213 : zR d 300 Q 213 (some (.ref c) :: l) st h = zR d 300 Q 214 (some (.ref c) :: l) (.ref c :: st) h := q_in rfl rfl
theorem r300_214 : zR d 300 Q 214 (o0 :: o1 :: o2 :: some (.int x) :: l) st h = zR d 300 Q 215 (o0 :: o1 :: o2 :: some (.int x) :: l) (.int x :: st) h := q_in rfl rfl
theorem r300_215 : zR d 300 Q 215 lv st h = zR d 300 Q 216 lv (.int 1 :: st) h := q_in rfl rfl
theorem r300_216 : zR d 300 Q 216 lv (.int z :: .int x :: st) h = zR d 300 Q 217 lv (.int (x + z) :: st) h := q_in rfl rfl
theorem r300_217 : zR d 300 Q 217 lv (.int x :: .ref c :: st) h = zal c x h (fun w => zR d 300 Q 218 lv (.int w :: st) h) := q_iald rfl
theorem r300_218 : zR d 300 Q 218 (some (.ref c) :: l) st h = zR d 300 Q 219 (some (.ref c) :: l) (.ref c :: st) h := q_in rfl rfl
theorem r300_219 : zR d 300 Q 219 (o0 :: o1 :: o2 :: some (.int x) :: l) st h = zR d 300 Q 220 (o0 :: o1 :: o2 :: some (.int x) :: l) (.int x :: st) h := q_in rfl rfl
theorem r300_220 : zR d 300 Q 220 lv st h = zR d 300 Q 221 lv (.int 2 :: st) h := q_in rfl rfl
theorem r300_221 : zR d 300 Q 221 lv (.int z :: .int x :: st) h = zR d 300 Q 222 lv (.int (x + z) :: st) h := q_in rfl rfl
theorem r300_222 : zR d 300 Q 222 lv (.int x :: .ref c :: st) h = zal c x h (fun w => zR d 300 Q 223 lv (.int w :: st) h) := q_iald rfl
theorem r300_223 : zR d 300 Q 223 (some (.ref c) :: l) st h = zR d 300 Q 224 (some (.ref c) :: l) (.ref c :: st) h := q_in rfl rfl
theorem r300_224 : zR d 300 Q 224 (o0 :: o1 :: o2 :: some (.int x) :: l) st h = zR d 300 Q 225 (o0 :: o1 :: o2 :: some (.int x) :: l) (.int x :: st) h := q_in rfl rfl
theorem r300_225 : zR d 300 Q 225 lv st h = zR d 300 Q 226 lv (.int 3 :: st) h := q_in rfl rfl
theorem r300_226 : zR d 300 Q 226 lv (.int z :: .int x :: st) h = zR d 300 Q 227 lv (.int (x + z) :: st) h := q_in rfl rfl
theorem r300_227 : zR d 300 Q 227 lv (.int x :: .ref c :: st) h = zal c x h (fun w => zR d 300 Q 228 lv (.int w :: st) h) := q_iald rfl
theorem r300_228 : zR d 300 Q 228 lv [.int x2, .int x1, .int x0, .ref 0] h = zM d 58 [.ref 0, .int x0, .int x1, .int x2] h (fun r h' => zR d 300 Q 231 lv (r.toList ++ []) h') := (q_clV rfl rfl (Nat.le_of_ble_eq_true rfl)).trans (zand_t ⟨rfl, Nat.le_of_ble_eq_true rfl⟩)
theorem r300_231 : zR d 300 Q 231 (o0 :: o1 :: some (.ref c) :: l) st h = zR d 300 Q 232 (o0 :: o1 :: some (.ref c) :: l) (.ref c :: st) h := q_in rfl rfl
theorem r300_232 : zR d 300 Q 232 (some (.ref c) :: l) st h = zR d 300 Q 233 (some (.ref c) :: l) (.ref c :: st) h := q_in rfl rfl
theorem r300_233 : zR d 300 Q 233 (o0 :: o1 :: o2 :: some (.int x) :: l) st h = zR d 300 Q 234 (o0 :: o1 :: o2 :: some (.int x) :: l) (.int x :: st) h := q_in rfl rfl
theorem r300_234 : zR d 300 Q 234 lv st h = zR d 300 Q 235 lv (.int 1 :: st) h := q_in rfl rfl
theorem r300_235 : zR d 300 Q 235 lv (.int z :: .int x :: st) h = zR d 300 Q 236 lv (.int (x + z) :: st) h := q_in rfl rfl
theorem r300_236 : zR d 300 Q 236 lv (.int x :: .ref c :: st) h = zal c x h (fun w => zR d 300 Q 237 lv (.int w :: st) h) := q_iald rfl
theorem r300_237 : zR d 300 Q 237 (some (.ref c) :: l) st h = zR d 300 Q 238 (some (.ref c) :: l) (.ref c :: st) h := q_in rfl rfl
theorem r300_238 : zR d 300 Q 238 (o0 :: o1 :: o2 :: some (.int x) :: l) st h = zR d 300 Q 239 (o0 :: o1 :: o2 :: some (.int x) :: l) (.int x :: st) h := q_in rfl rfl
theorem r300_239 : zR d 300 Q 239 lv st h = zR d 300 Q 240 lv (.int 2 :: st) h := q_in rfl rfl
theorem r300_240 : zR d 300 Q 240 lv (.int z :: .int x :: st) h = zR d 300 Q 241 lv (.int (x + z) :: st) h := q_in rfl rfl
theorem r300_241 : zR d 300 Q 241 lv (.int x :: .ref c :: st) h = zal c x h (fun w => zR d 300 Q 242 lv (.int w :: st) h) := q_iald rfl
theorem r300_242 : zR d 300 Q 242 (some (.ref c) :: l) st h = zR d 300 Q 243 (some (.ref c) :: l) (.ref c :: st) h := q_in rfl rfl
theorem r300_243 : zR d 300 Q 243 (o0 :: o1 :: o2 :: some (.int x) :: l) st h = zR d 300 Q 244 (o0 :: o1 :: o2 :: some (.int x) :: l) (.int x :: st) h := q_in rfl rfl
theorem r300_244 : zR d 300 Q 244 lv st h = zR d 300 Q 245 lv (.int 3 :: st) h := q_in rfl rfl
theorem r300_245 : zR d 300 Q 245 lv (.int z :: .int x :: st) h = zR d 300 Q 246 lv (.int (x + z) :: st) h := q_in rfl rfl
theorem r300_246 : zR d 300 Q 246 lv (.int x :: .ref c :: st) h = zal c x h (fun w => zR d 300 Q 247 lv (.int w :: st) h) := q_iald rfl
theorem r300_247 : zR d 300 Q 247 lv [.int x2, .int x1, .int x0, .ref 60, .int y0] h = zM d 119 [.ref 60, .int x0, .int x1, .int x2] h (fun r h' => zR d 300 Q 250 lv (r.toList ++ [.int y0]) h') := (q_clV rfl rfl (Nat.le_of_ble_eq_true rfl)).trans (zand_t ⟨rfl, Nat.le_of_ble_eq_true rfl⟩)
theorem r300_250 : zR d 300 Q 250 lv (.int z :: .int x :: st) h = if x = z then zR d 300 Q 1375 lv st h else zR d 300 Q 253 lv st h := q_if rfl rfl
theorem r300_253 : zR d 300 Q 253 lv st h = zR d 300 Q 254 lv (.int 0 :: st) h := q_in rfl rfl
theorem r300_254f : zR d 300 Q 254 lv [.int 0] h = Q (some (.int 0)) h := q_retz rfl rfl (Or.inr (Or.inl rfl))
theorem r300_254t : zR d 300 Q 254 lv [.int 1] h = Q (some (.int 1)) h := q_retz rfl rfl (Or.inr (Or.inr rfl))
theorem r300_255 : zR d 300 Q 255 (o0 :: some (.ref c) :: l) st h = zR d 300 Q 256 (o0 :: some (.ref c) :: l) (.ref c :: st) h := q_in rfl rfl
theorem r300_256 : zR d 300 Q 256 (some (.ref c) :: l) st h = zR d 300 Q 257 (some (.ref c) :: l) (.ref c :: st) h := q_in rfl rfl
theorem r300_257 : zR d 300 Q 257 (o0 :: o1 :: o2 :: some (.int x) :: l) st h = zR d 300 Q 258 (o0 :: o1 :: o2 :: some (.int x) :: l) (.int x :: st) h := q_in rfl rfl
theorem r300_258 : zR d 300 Q 258 lv st h = zR d 300 Q 259 lv (.int 1 :: st) h := q_in rfl rfl
theorem r300_259 : zR d 300 Q 259 lv (.int z :: .int x :: st) h = zR d 300 Q 260 lv (.int (x + z) :: st) h := q_in rfl rfl
theorem r300_260 : zR d 300 Q 260 lv (.int x :: .ref c :: st) h = zal c x h (fun w => zR d 300 Q 261 lv (.int w :: st) h) := q_iald rfl
theorem r300_261 : zR d 300 Q 261 (some (.ref c) :: l) st h = zR d 300 Q 262 (some (.ref c) :: l) (.ref c :: st) h := q_in rfl rfl
theorem r300_262 : zR d 300 Q 262 (o0 :: o1 :: o2 :: some (.int x) :: l) st h = zR d 300 Q 263 (o0 :: o1 :: o2 :: some (.int x) :: l) (.int x :: st) h := q_in rfl rfl
theorem r300_263 : zR d 300 Q 263 lv st h = zR d 300 Q 264 lv (.int 2 :: st) h := q_in rfl rfl
theorem r300_264 : zR d 300 Q 264 lv (.int z :: .int x :: st) h = zR d 300 Q 265 lv (.int (x + z) :: st) h := q_in rfl rfl
theorem r300_265 : zR d 300 Q 265 lv (.int x :: .ref c :: st) h = zal c x h (fun w => zR d 300 Q 266 lv (.int w :: st) h) := q_iald rfl
theorem r300_266 : zR d 300 Q 266 lv [.int x1, .int x0, .ref 0] h = zM d 59 [.ref 0, .int x0, .int x1] h (fun r h' => zR d 300 Q 269 lv (r.toList ++ []) h') := (q_clV rfl rfl (Nat.le_of_ble_eq_true rfl)).trans (zand_t ⟨rfl, Nat.le_of_ble_eq_true rfl⟩)
theorem r300_269 : zR d 300 Q 269 (o0 :: o1 :: some (.ref c) :: l) st h = zR d 300 Q 270 (o0 :: o1 :: some (.ref c) :: l) (.ref c :: st) h := q_in rfl rfl
theorem r300_270 : zR d 300 Q 270 (some (.ref c) :: l) st h = zR d 300 Q 271 (some (.ref c) :: l) (.ref c :: st) h := q_in rfl rfl
theorem r300_271 : zR d 300 Q 271 (o0 :: o1 :: o2 :: some (.int x) :: l) st h = zR d 300 Q 272 (o0 :: o1 :: o2 :: some (.int x) :: l) (.int x :: st) h := q_in rfl rfl
theorem r300_272 : zR d 300 Q 272 lv st h = zR d 300 Q 273 lv (.int 1 :: st) h := q_in rfl rfl
theorem r300_273 : zR d 300 Q 273 lv (.int z :: .int x :: st) h = zR d 300 Q 274 lv (.int (x + z) :: st) h := q_in rfl rfl
theorem r300_274 : zR d 300 Q 274 lv (.int x :: .ref c :: st) h = zal c x h (fun w => zR d 300 Q 275 lv (.int w :: st) h) := q_iald rfl
theorem r300_275 : zR d 300 Q 275 (some (.ref c) :: l) st h = zR d 300 Q 276 (some (.ref c) :: l) (.ref c :: st) h := q_in rfl rfl
theorem r300_276 : zR d 300 Q 276 (o0 :: o1 :: o2 :: some (.int x) :: l) st h = zR d 300 Q 277 (o0 :: o1 :: o2 :: some (.int x) :: l) (.int x :: st) h := q_in rfl rfl
theorem r300_277 : zR d 300 Q 277 lv st h = zR d 300 Q 278 lv (.int 2 :: st) h := q_in rfl rfl
theorem r300_278 : zR d 300 Q 278 lv (.int z :: .int x :: st) h = zR d 300 Q 279 lv (.int (x + z) :: st) h := q_in rfl rfl
theorem r300_279 : zR d 300 Q 279 lv (.int x :: .ref c :: st) h = zal c x h (fun w => zR d 300 Q 280 lv (.int w :: st) h) := q_iald rfl
theorem r300_280 : zR d 300 Q 280 lv [.int x1, .int x0, .ref 60, .int y0] h = zM d 124 [.ref 60, .int x0, .int x1] h (fun r h' => zR d 300 Q 283 lv (r.toList ++ [.int y0]) h') := (q_clV rfl rfl (Nat.le_of_ble_eq_true rfl)).trans (zand_t ⟨rfl, Nat.le_of_ble_eq_true rfl⟩)
theorem r300_283 : zR d 300 Q 283 lv (.int z :: .int x :: st) h = if x = z then zR d 300 Q 1375 lv st h else zR d 300 Q 286 lv st h := q_if rfl rfl
theorem r300_286 : zR d 300 Q 286 lv st h = zR d 300 Q 287 lv (.int 0 :: st) h := q_in rfl rfl
theorem r300_287f : zR d 300 Q 287 lv [.int 0] h = Q (some (.int 0)) h := q_retz rfl rfl (Or.inr (Or.inl rfl))
theorem r300_287t : zR d 300 Q 287 lv [.int 1] h = Q (some (.int 1)) h := q_retz rfl rfl (Or.inr (Or.inr rfl))
theorem r300_288 : zR d 300 Q 288 (o0 :: some (.ref c) :: l) st h = zR d 300 Q 289 (o0 :: some (.ref c) :: l) (.ref c :: st) h := q_in rfl rfl
theorem r300_289 : zR d 300 Q 289 (some (.ref c) :: l) st h = zR d 300 Q 290 (some (.ref c) :: l) (.ref c :: st) h := q_in rfl rfl
theorem r300_290 : zR d 300 Q 290 (o0 :: o1 :: o2 :: some (.int x) :: l) st h = zR d 300 Q 291 (o0 :: o1 :: o2 :: some (.int x) :: l) (.int x :: st) h := q_in rfl rfl
theorem r300_291 : zR d 300 Q 291 lv st h = zR d 300 Q 292 lv (.int 1 :: st) h := q_in rfl rfl
theorem r300_292 : zR d 300 Q 292 lv (.int z :: .int x :: st) h = zR d 300 Q 293 lv (.int (x + z) :: st) h := q_in rfl rfl
theorem r300_293 : zR d 300 Q 293 lv (.int x :: .ref c :: st) h = zal c x h (fun w => zR d 300 Q 294 lv (.int w :: st) h) := q_iald rfl
theorem r300_294 : zR d 300 Q 294 (some (.ref c) :: l) st h = zR d 300 Q 295 (some (.ref c) :: l) (.ref c :: st) h := q_in rfl rfl
theorem r300_295 : zR d 300 Q 295 (o0 :: o1 :: o2 :: some (.int x) :: l) st h = zR d 300 Q 296 (o0 :: o1 :: o2 :: some (.int x) :: l) (.int x :: st) h := q_in rfl rfl
theorem r300_296 : zR d 300 Q 296 lv st h = zR d 300 Q 297 lv (.int 2 :: st) h := q_in rfl rfl
theorem r300_297 : zR d 300 Q 297 lv (.int z :: .int x :: st) h = zR d 300 Q 298 lv (.int (x + z) :: st) h := q_in rfl rfl
theorem r300_298 : zR d 300 Q 298 lv (.int x :: .ref c :: st) h = zal c x h (fun w => zR d 300 Q 299 lv (.int w :: st) h) := q_iald rfl
theorem r300_299 : zR d 300 Q 299 lv [.int x1, .int x0, .ref 0] h = zM d 60 [.ref 0, .int x0, .int x1] h (fun r h' => zR d 300 Q 302 lv (r.toList ++ []) h') := (q_clV rfl rfl (Nat.le_of_ble_eq_true rfl)).trans (zand_t ⟨rfl, Nat.le_of_ble_eq_true rfl⟩)
theorem r300_302 : zR d 300 Q 302 (o0 :: o1 :: some (.ref c) :: l) st h = zR d 300 Q 303 (o0 :: o1 :: some (.ref c) :: l) (.ref c :: st) h := q_in rfl rfl
set_option maxRecDepth 100000 in
theorem r300_303 : zR d 300 Q 303 (some (.ref c) :: l) st h = zR d 300 Q 304 (some (.ref c) :: l) (.ref c :: st) h := q_in rfl rfl
set_option maxRecDepth 100000 in
theorem r300_304 : zR d 300 Q 304 (o0 :: o1 :: o2 :: some (.int x) :: l) st h = zR d 300 Q 305 (o0 :: o1 :: o2 :: some (.int x) :: l) (.int x :: st) h := q_in rfl rfl
set_option maxRecDepth 100000 in
theorem r300_305 : zR d 300 Q 305 lv st h = zR d 300 Q 306 lv (.int 1 :: st) h := q_in rfl rfl
set_option maxRecDepth 100000 in
theorem r300_306 : zR d 300 Q 306 lv (.int z :: .int x :: st) h = zR d 300 Q 307 lv (.int (x + z) :: st) h := q_in rfl rfl
set_option maxRecDepth 100000 in
theorem r300_307 : zR d 300 Q 307 lv (.int x :: .ref c :: st) h = zal c x h (fun w => zR d 300 Q 308 lv (.int w :: st) h) := q_iald rfl
set_option maxRecDepth 100000 in
theorem r300_308 : zR d 300 Q 308 (some (.ref c) :: l) st h = zR d 300 Q 309 (some (.ref c) :: l) (.ref c :: st) h := q_in rfl rfl
set_option maxRecDepth 100000 in
theorem r300_309 : zR d 300 Q 309 (o0 :: o1 :: o2 :: some (.int x) :: l) st h = zR d 300 Q 310 (o0 :: o1 :: o2 :: some (.int x) :: l) (.int x :: st) h := q_in rfl rfl
set_option maxRecDepth 100000 in
theorem r300_310 : zR d 300 Q 310 lv st h = zR d 300 Q 311 lv (.int 2 :: st) h := q_in rfl rfl
set_option maxRecDepth 100000 in
theorem r300_311 : zR d 300 Q 311 lv (.int z :: .int x :: st) h = zR d 300 Q 312 lv (.int (x + z) :: st) h := q_in rfl rfl
set_option maxRecDepth 100000 in
theorem r300_312 : zR d 300 Q 312 lv (.int x :: .ref c :: st) h = zal c x h (fun w => zR d 300 Q 313 lv (.int w :: st) h) := q_iald rfl
set_option maxRecDepth 100000 in
theorem r300_313 : zR d 300 Q 313 lv [.int x1, .int x0, .ref 60, .int y0] h = zM d 126 [.ref 60, .int x0, .int x1] h (fun r h' => zR d 300 Q 316 lv (r.toList ++ [.int y0]) h') := (q_clV rfl rfl (Nat.le_of_ble_eq_true rfl)).trans (zand_t ⟨rfl, Nat.le_of_ble_eq_true rfl⟩)
set_option maxRecDepth 100000 in
theorem r300_316 : zR d 300 Q 316 lv (.int z :: .int x :: st) h = if x = z then zR d 300 Q 1375 lv st h else zR d 300 Q 319 lv st h := q_if rfl rfl
set_option maxRecDepth 100000 in
theorem r300_319 : zR d 300 Q 319 lv st h = zR d 300 Q 320 lv (.int 0 :: st) h := q_in rfl rfl
set_option maxRecDepth 100000 in
theorem r300_320f : zR d 300 Q 320 lv [.int 0] h = Q (some (.int 0)) h := q_retz rfl rfl (Or.inr (Or.inl rfl))
set_option maxRecDepth 100000 in
theorem r300_320t : zR d 300 Q 320 lv [.int 1] h = Q (some (.int 1)) h := q_retz rfl rfl (Or.inr (Or.inr rfl))
set_option maxRecDepth 100000 in
theorem r300_321 : zR d 300 Q 321 (o0 :: some (.ref c) :: l) st h = zR d 300 Q 322 (o0 :: some (.ref c) :: l) (.ref c :: st) h := q_in rfl rfl
set_option maxRecDepth 100000 in
theorem r300_322 : zR d 300 Q 322 (some (.ref c) :: l) st h = zR d 300 Q 323 (some (.ref c) :: l) (.ref c :: st) h := q_in rfl rfl
set_option maxRecDepth 100000 in
theorem r300_323 : zR d 300 Q 323 (o0 :: o1 :: o2 :: some (.int x) :: l) st h = zR d 300 Q 324 (o0 :: o1 :: o2 :: some (.int x) :: l) (.int x :: st) h := q_in rfl rfl
set_option maxRecDepth 100000 in
theorem r300_324 : zR d 300 Q 324 lv st h = zR d 300 Q 325 lv (.int 1 :: st) h := q_in rfl rfl
set_option maxRecDepth 100000 in
theorem r300_325 : zR d 300 Q 325 lv (.int z :: .int x :: st) h = zR d 300 Q 326 lv (.int (x + z) :: st) h := q_in rfl rfl
set_option maxRecDepth 100000 in
theorem r300_326 : zR d 300 Q 326 lv (.int x :: .ref c :: st) h = zal c x h (fun w => zR d 300 Q 327 lv (.int w :: st) h) := q_iald rfl
set_option maxRecDepth 100000 in
theorem r300_327 : zR d 300 Q 327 (some (.ref c) :: l) st h = zR d 300 Q 328 (some (.ref c) :: l) (.ref c :: st) h := q_in rfl rfl
set_option maxRecDepth 100000 in
theorem r300_328 : zR d 300 Q 328 (o0 :: o1 :: o2 :: some (.int x) :: l) st h = zR d 300 Q 329 (o0 :: o1 :: o2 :: some (.int x) :: l) (.int x :: st) h := q_in rfl rfl
set_option maxRecDepth 100000 in
theorem r300_329 : zR d 300 Q 329 lv st h = zR d 300 Q 330 lv (.int 2 :: st) h := q_in rfl rfl
set_option maxRecDepth 100000 in
theorem r300_330 : zR d 300 Q 330 lv (.int z :: .int x :: st) h = zR d 300 Q 331 lv (.int (x + z) :: st) h := q_in rfl rfl
set_option maxRecDepth 100000 in
theorem r300_331 : zR d 300 Q 331 lv (.int x :: .ref c :: st) h = zal c x h (fun w => zR d 300 Q 332 lv (.int w :: st) h) := q_iald rfl
set_option maxRecDepth 100000 in
theorem r300_332 : zR d 300 Q 332 lv [.int x1, .int x0, .ref 0] h = zM d 61 [.ref 0, .int x0, .int x1] h (fun r h' => zR d 300 Q 335 lv (r.toList ++ []) h') := (q_clV rfl rfl (Nat.le_of_ble_eq_true rfl)).trans (zand_t ⟨rfl, Nat.le_of_ble_eq_true rfl⟩)
set_option maxRecDepth 100000 in
theorem r300_335 : zR d 300 Q 335 (o0 :: o1 :: some (.ref c) :: l) st h = zR d 300 Q 336 (o0 :: o1 :: some (.ref c) :: l) (.ref c :: st) h := q_in rfl rfl
set_option maxRecDepth 100000 in
theorem r300_336 : zR d 300 Q 336 (some (.ref c) :: l) st h = zR d 300 Q 337 (some (.ref c) :: l) (.ref c :: st) h := q_in rfl rfl
set_option maxRecDepth 100000 in
theorem r300_337 : zR d 300 Q 337 (o0 :: o1 :: o2 :: some (.int x) :: l) st h = zR d 300 Q 338 (o0 :: o1 :: o2 :: some (.int x) :: l) (.int x :: st) h := q_in rfl rfl
set_option maxRecDepth 100000 in
theorem r300_338 : zR d 300 Q 338 lv st h = zR d 300 Q 339 lv (.int 1 :: st) h := q_in rfl rfl
set_option maxRecDepth 100000 in
theorem r300_339 : zR d 300 Q 339 lv (.int z :: .int x :: st) h = zR d 300 Q 340 lv (.int (x + z) :: st) h := q_in rfl rfl
set_option maxRecDepth 100000 in
theorem r300_340 : zR d 300 Q 340 lv (.int x :: .ref c :: st) h = zal c x h (fun w => zR d 300 Q 341 lv (.int w :: st) h) := q_iald rfl
set_option maxRecDepth 100000 in
theorem r300_341 : zR d 300 Q 341 (some (.ref c) :: l) st h = zR d 300 Q 342 (some (.ref c) :: l) (.ref c :: st) h := q_in rfl rfl
set_option maxRecDepth 100000 in
theorem r300_342 : zR d 300 Q 342 (o0 :: o1 :: o2 :: some (.int x) :: l) st h = zR d 300 Q 343 (o0 :: o1 :: o2 :: some (.int x) :: l) (.int x :: st) h := q_in rfl rfl
set_option maxRecDepth 100000 in
theorem r300_343 : zR d 300 Q 343 lv st h = zR d 300 Q 344 lv (.int 2 :: st) h := q_in rfl rfl
set_option maxRecDepth 100000 in
theorem r300_344 : zR d 300 Q 344 lv (.int z :: .int x :: st) h = zR d 300 Q 345 lv (.int (x + z) :: st) h := q_in rfl rfl
set_option maxRecDepth 100000 in
theorem r300_345 : zR d 300 Q 345 lv (.int x :: .ref c :: st) h = zal c x h (fun w => zR d 300 Q 346 lv (.int w :: st) h) := q_iald rfl
set_option maxRecDepth 100000 in
theorem r300_346 : zR d 300 Q 346 lv [.int x1, .int x0, .ref 60, .int y0] h = zM d 127 [.ref 60, .int x0, .int x1] h (fun r h' => zR d 300 Q 349 lv (r.toList ++ [.int y0]) h') := (q_clV rfl rfl (Nat.le_of_ble_eq_true rfl)).trans (zand_t ⟨rfl, Nat.le_of_ble_eq_true rfl⟩)
set_option maxRecDepth 100000 in
theorem r300_349 : zR d 300 Q 349 lv (.int z :: .int x :: st) h = if x = z then zR d 300 Q 1375 lv st h else zR d 300 Q 352 lv st h := q_if rfl rfl
set_option maxRecDepth 100000 in
theorem r300_352 : zR d 300 Q 352 lv st h = zR d 300 Q 353 lv (.int 0 :: st) h := q_in rfl rfl
set_option maxRecDepth 100000 in
theorem r300_353f : zR d 300 Q 353 lv [.int 0] h = Q (some (.int 0)) h := q_retz rfl rfl (Or.inr (Or.inl rfl))
set_option maxRecDepth 100000 in
theorem r300_353t : zR d 300 Q 353 lv [.int 1] h = Q (some (.int 1)) h := q_retz rfl rfl (Or.inr (Or.inr rfl))
set_option maxRecDepth 100000 in
theorem r300_354 : zR d 300 Q 354 (o0 :: some (.ref c) :: l) st h = zR d 300 Q 355 (o0 :: some (.ref c) :: l) (.ref c :: st) h := q_in rfl rfl
set_option maxRecDepth 100000 in
theorem r300_355 : zR d 300 Q 355 (some (.ref c) :: l) st h = zR d 300 Q 356 (some (.ref c) :: l) (.ref c :: st) h := q_in rfl rfl
set_option maxRecDepth 100000 in
theorem r300_356 : zR d 300 Q 356 (o0 :: o1 :: o2 :: some (.int x) :: l) st h = zR d 300 Q 357 (o0 :: o1 :: o2 :: some (.int x) :: l) (.int x :: st) h := q_in rfl rfl
set_option maxRecDepth 100000 in
theorem r300_357 : zR d 300 Q 357 lv st h = zR d 300 Q 358 lv (.int 1 :: st) h := q_in rfl rfl
set_option maxRecDepth 100000 in
theorem r300_358 : zR d 300 Q 358 lv (.int z :: .int x :: st) h = zR d 300 Q 359 lv (.int (x + z) :: st) h := q_in rfl rfl
set_option maxRecDepth 100000 in
theorem r300_359 : zR d 300 Q 359 lv (.int x :: .ref c :: st) h = zal c x h (fun w => zR d 300 Q 360 lv (.int w :: st) h) := q_iald rfl
set_option maxRecDepth 100000 in
theorem r300_360 : zR d 300 Q 360 (some (.ref c) :: l) st h = zR d 300 Q 361 (some (.ref c) :: l) (.ref c :: st) h := q_in rfl rfl
set_option maxRecDepth 100000 in
theorem r300_361 : zR d 300 Q 361 (o0 :: o1 :: o2 :: some (.int x) :: l) st h = zR d 300 Q 362 (o0 :: o1 :: o2 :: some (.int x) :: l) (.int x :: st) h := q_in rfl rfl
set_option maxRecDepth 100000 in
theorem r300_362 : zR d 300 Q 362 lv st h = zR d 300 Q 363 lv (.int 2 :: st) h := q_in rfl rfl
set_option maxRecDepth 100000 in
theorem r300_363 : zR d 300 Q 363 lv (.int z :: .int x :: st) h = zR d 300 Q 364 lv (.int (x + z) :: st) h := q_in rfl rfl
set_option maxRecDepth 100000 in
theorem r300_364 : zR d 300 Q 364 lv (.int x :: .ref c :: st) h = zal c x h (fun w => zR d 300 Q 365 lv (.int w :: st) h) := q_iald rfl
set_option maxRecDepth 100000 in
theorem r300_365 : zR d 300 Q 365 (some (.ref c) :: l) st h = zR d 300 Q 366 (some (.ref c) :: l) (.ref c :: st) h := q_in rfl rfl
set_option maxRecDepth 100000 in
theorem r300_366 : zR d 300 Q 366 (o0 :: o1 :: o2 :: some (.int x) :: l) st h = zR d 300 Q 367 (o0 :: o1 :: o2 :: some (.int x) :: l) (.int x :: st) h := q_in rfl rfl
set_option maxRecDepth 100000 in
theorem r300_367 : zR d 300 Q 367 lv st h = zR d 300 Q 368 lv (.int 3 :: st) h := q_in rfl rfl
set_option maxRecDepth 100000 in
theorem r300_368 : zR d 300 Q 368 lv (.int z :: .int x :: st) h = zR d 300 Q 369 lv (.int (x + z) :: st) h := q_in rfl rfl
set_option maxRecDepth 100000 in
theorem r300_369 : zR d 300 Q 369 lv (.int x :: .ref c :: st) h = zal c x h (fun w => zR d 300 Q 370 lv (.int w :: st) h) := q_iald rfl
set_option maxRecDepth 100000 in
theorem r300_370 : zR d 300 Q 370 lv [.int x2, .int x1, .int x0, .ref 0] h = zM d 62 [.ref 0, .int x0, .int x1, .int x2] h (fun r h' => zR d 300 Q 373 lv (r.toList ++ []) h') := (q_clV rfl rfl (Nat.le_of_ble_eq_true rfl)).trans (zand_t ⟨rfl, Nat.le_of_ble_eq_true rfl⟩)
set_option maxRecDepth 100000 in
theorem r300_373 : zR d 300 Q 373 (o0 :: o1 :: some (.ref c) :: l) st h = zR d 300 Q 374 (o0 :: o1 :: some (.ref c) :: l) (.ref c :: st) h := q_in rfl rfl
set_option maxRecDepth 100000 in
theorem r300_374 : zR d 300 Q 374 (some (.ref c) :: l) st h = zR d 300 Q 375 (some (.ref c) :: l) (.ref c :: st) h := q_in rfl rfl
set_option maxRecDepth 100000 in
theorem r300_375 : zR d 300 Q 375 (o0 :: o1 :: o2 :: some (.int x) :: l) st h = zR d 300 Q 376 (o0 :: o1 :: o2 :: some (.int x) :: l) (.int x :: st) h := q_in rfl rfl
set_option maxRecDepth 100000 in
theorem r300_376 : zR d 300 Q 376 lv st h = zR d 300 Q 377 lv (.int 1 :: st) h := q_in rfl rfl
set_option maxRecDepth 100000 in
theorem r300_377 : zR d 300 Q 377 lv (.int z :: .int x :: st) h = zR d 300 Q 378 lv (.int (x + z) :: st) h := q_in rfl rfl
set_option maxRecDepth 100000 in
theorem r300_378 : zR d 300 Q 378 lv (.int x :: .ref c :: st) h = zal c x h (fun w => zR d 300 Q 379 lv (.int w :: st) h) := q_iald rfl
set_option maxRecDepth 100000 in
theorem r300_379 : zR d 300 Q 379 (some (.ref c) :: l) st h = zR d 300 Q 380 (some (.ref c) :: l) (.ref c :: st) h := q_in rfl rfl
set_option maxRecDepth 100000 in
theorem r300_380 : zR d 300 Q 380 (o0 :: o1 :: o2 :: some (.int x) :: l) st h = zR d 300 Q 381 (o0 :: o1 :: o2 :: some (.int x) :: l) (.int x :: st) h := q_in rfl rfl
set_option maxRecDepth 100000 in
theorem r300_381 : zR d 300 Q 381 lv st h = zR d 300 Q 382 lv (.int 2 :: st) h := q_in rfl rfl
set_option maxRecDepth 100000 in
theorem r300_382 : zR d 300 Q 382 lv (.int z :: .int x :: st) h = zR d 300 Q 383 lv (.int (x + z) :: st) h := q_in rfl rfl
set_option maxRecDepth 100000 in
theorem r300_383 : zR d 300 Q 383 lv (.int x :: .ref c :: st) h = zal c x h (fun w => zR d 300 Q 384 lv (.int w :: st) h) := q_iald rfl
set_option maxRecDepth 100000 in
theorem r300_384 : zR d 300 Q 384 (some (.ref c) :: l) st h = zR d 300 Q 385 (some (.ref c) :: l) (.ref c :: st) h := q_in rfl rfl
set_option maxRecDepth 100000 in
theorem r300_385 : zR d 300 Q 385 (o0 :: o1 :: o2 :: some (.int x) :: l) st h = zR d 300 Q 386 (o0 :: o1 :: o2 :: some (.int x) :: l) (.int x :: st) h := q_in rfl rfl
set_option maxRecDepth 100000 in
theorem r300_386 : zR d 300 Q 386 lv st h = zR d 300 Q 387 lv (.int 3 :: st) h := q_in rfl rfl
set_option maxRecDepth 100000 in
theorem r300_387 : zR d 300 Q 387 lv (.int z :: .int x :: st) h = zR d 300 Q 388 lv (.int (x + z) :: st) h := q_in rfl rfl
set_option maxRecDepth 100000 in
theorem r300_388 : zR d 300 Q 388 lv (.int x :: .ref c :: st) h = zal c x h (fun w => zR d 300 Q 389 lv (.int w :: st) h) := q_iald rfl
set_option maxRecDepth 100000 in
theorem r300_389 : zR d 300 Q 389 lv [.int x2, .int x1, .int x0, .ref 60, .int y0] h = zM d 128 [.ref 60, .int x0, .int x1, .int x2] h (fun r h' => zR d 300 Q 392 lv (r.toList ++ [.int y0]) h') := (q_clV rfl rfl (Nat.le_of_ble_eq_true rfl)).trans (zand_t ⟨rfl, Nat.le_of_ble_eq_true rfl⟩)
set_option maxRecDepth 100000 in
theorem r300_392 : zR d 300 Q 392 lv (.int z :: .int x :: st) h = if x = z then zR d 300 Q 1375 lv st h else zR d 300 Q 395 lv st h := q_if rfl rfl
set_option maxRecDepth 100000 in
theorem r300_395 : zR d 300 Q 395 lv st h = zR d 300 Q 396 lv (.int 0 :: st) h := q_in rfl rfl
set_option maxRecDepth 100000 in
theorem r300_396f : zR d 300 Q 396 lv [.int 0] h = Q (some (.int 0)) h := q_retz rfl rfl (Or.inr (Or.inl rfl))
set_option maxRecDepth 100000 in
theorem r300_396t : zR d 300 Q 396 lv [.int 1] h = Q (some (.int 1)) h := q_retz rfl rfl (Or.inr (Or.inr rfl))
set_option maxRecDepth 100000 in
theorem r300_397 : zR d 300 Q 397 (o0 :: some (.ref c) :: l) st h = zR d 300 Q 398 (o0 :: some (.ref c) :: l) (.ref c :: st) h := q_in rfl rfl
set_option maxRecDepth 100000 in
theorem r300_398 : zR d 300 Q 398 (some (.ref c) :: l) st h = zR d 300 Q 399 (some (.ref c) :: l) (.ref c :: st) h := q_in rfl rfl
set_option maxRecDepth 100000 in
theorem r300_399 : zR d 300 Q 399 (o0 :: o1 :: o2 :: some (.int x) :: l) st h = zR d 300 Q 400 (o0 :: o1 :: o2 :: some (.int x) :: l) (.int x :: st) h := q_in rfl rfl
set_option maxRecDepth 100000 in
theorem r300_400 : zR d 300 Q 400 lv st h = zR d 300 Q 401 lv (.int 1 :: st) h := q_in rfl rfl
set_option maxRecDepth 100000 in
theorem r300_401 : zR d 300 Q 401 lv (.int z :: .int x :: st) h = zR d 300 Q 402 lv (.int (x + z) :: st) h := q_in rfl rfl
set_option maxRecDepth 100000 in
theorem r300_402 : zR d 300 Q 402 lv (.int x :: .ref c :: st) h = zal c x h (fun w => zR d 300 Q 403 lv (.int w :: st) h) := q_iald rfl
set_option maxRecDepth 100000 in
theorem r300_403 : zR d 300 Q 403 lv [.int x0, .ref 0] h = zM d 63 [.ref 0, .int x0] h (fun r h' => zR d 300 Q 406 lv (r.toList ++ []) h') := (q_clV rfl rfl (Nat.le_of_ble_eq_true rfl)).trans (zand_t ⟨rfl, Nat.le_of_ble_eq_true rfl⟩)
set_option maxRecDepth 100000 in
theorem r300_406 : zR d 300 Q 406 (o0 :: o1 :: some (.ref c) :: l) st h = zR d 300 Q 407 (o0 :: o1 :: some (.ref c) :: l) (.ref c :: st) h := q_in rfl rfl
set_option maxRecDepth 100000 in
theorem r300_407 : zR d 300 Q 407 (some (.ref c) :: l) st h = zR d 300 Q 408 (some (.ref c) :: l) (.ref c :: st) h := q_in rfl rfl
set_option maxRecDepth 100000 in
theorem r300_408 : zR d 300 Q 408 (o0 :: o1 :: o2 :: some (.int x) :: l) st h = zR d 300 Q 409 (o0 :: o1 :: o2 :: some (.int x) :: l) (.int x :: st) h := q_in rfl rfl
set_option maxRecDepth 100000 in
theorem r300_409 : zR d 300 Q 409 lv st h = zR d 300 Q 410 lv (.int 1 :: st) h := q_in rfl rfl
set_option maxRecDepth 100000 in
theorem r300_410 : zR d 300 Q 410 lv (.int z :: .int x :: st) h = zR d 300 Q 411 lv (.int (x + z) :: st) h := q_in rfl rfl
set_option maxRecDepth 100000 in
theorem r300_411 : zR d 300 Q 411 lv (.int x :: .ref c :: st) h = zal c x h (fun w => zR d 300 Q 412 lv (.int w :: st) h) := q_iald rfl
set_option maxRecDepth 100000 in
theorem r300_412 : zR d 300 Q 412 lv [.int x0, .ref 60, .int y0] h = zM d 131 [.ref 60, .int x0] h (fun r h' => zR d 300 Q 415 lv (r.toList ++ [.int y0]) h') := (q_clV rfl rfl (Nat.le_of_ble_eq_true rfl)).trans (zand_t ⟨rfl, Nat.le_of_ble_eq_true rfl⟩)
set_option maxRecDepth 100000 in
theorem r300_415 : zR d 300 Q 415 lv (.int z :: .int x :: st) h = if x = z then zR d 300 Q 1375 lv st h else zR d 300 Q 418 lv st h := q_if rfl rfl
set_option maxRecDepth 100000 in
theorem r300_418 : zR d 300 Q 418 lv st h = zR d 300 Q 419 lv (.int 0 :: st) h := q_in rfl rfl
set_option maxRecDepth 100000 in
theorem r300_419f : zR d 300 Q 419 lv [.int 0] h = Q (some (.int 0)) h := q_retz rfl rfl (Or.inr (Or.inl rfl))
set_option maxRecDepth 100000 in
theorem r300_419t : zR d 300 Q 419 lv [.int 1] h = Q (some (.int 1)) h := q_retz rfl rfl (Or.inr (Or.inr rfl))
set_option maxRecDepth 100000 in
theorem r300_420 : zR d 300 Q 420 (o0 :: some (.ref c) :: l) st h = zR d 300 Q 421 (o0 :: some (.ref c) :: l) (.ref c :: st) h := q_in rfl rfl
set_option maxRecDepth 100000 in
theorem r300_421 : zR d 300 Q 421 (some (.ref c) :: l) st h = zR d 300 Q 422 (some (.ref c) :: l) (.ref c :: st) h := q_in rfl rfl
set_option maxRecDepth 100000 in
theorem r300_422 : zR d 300 Q 422 (o0 :: o1 :: o2 :: some (.int x) :: l) st h = zR d 300 Q 423 (o0 :: o1 :: o2 :: some (.int x) :: l) (.int x :: st) h := q_in rfl rfl
set_option maxRecDepth 100000 in
theorem r300_423 : zR d 300 Q 423 lv st h = zR d 300 Q 424 lv (.int 1 :: st) h := q_in rfl rfl
set_option maxRecDepth 100000 in
theorem r300_424 : zR d 300 Q 424 lv (.int z :: .int x :: st) h = zR d 300 Q 425 lv (.int (x + z) :: st) h := q_in rfl rfl
set_option maxRecDepth 100000 in
theorem r300_425 : zR d 300 Q 425 lv (.int x :: .ref c :: st) h = zal c x h (fun w => zR d 300 Q 426 lv (.int w :: st) h) := q_iald rfl
set_option maxRecDepth 100000 in
theorem r300_426 : zR d 300 Q 426 (some (.ref c) :: l) st h = zR d 300 Q 427 (some (.ref c) :: l) (.ref c :: st) h := q_in rfl rfl
set_option maxRecDepth 100000 in
theorem r300_427 : zR d 300 Q 427 (o0 :: o1 :: o2 :: some (.int x) :: l) st h = zR d 300 Q 428 (o0 :: o1 :: o2 :: some (.int x) :: l) (.int x :: st) h := q_in rfl rfl
set_option maxRecDepth 100000 in
theorem r300_428 : zR d 300 Q 428 lv st h = zR d 300 Q 429 lv (.int 2 :: st) h := q_in rfl rfl
set_option maxRecDepth 100000 in
theorem r300_429 : zR d 300 Q 429 lv (.int z :: .int x :: st) h = zR d 300 Q 430 lv (.int (x + z) :: st) h := q_in rfl rfl
set_option maxRecDepth 100000 in
theorem r300_430 : zR d 300 Q 430 lv (.int x :: .ref c :: st) h = zal c x h (fun w => zR d 300 Q 431 lv (.int w :: st) h) := q_iald rfl
set_option maxRecDepth 100000 in
theorem r300_431 : zR d 300 Q 431 lv [.int x1, .int x0, .ref 0] h = zM d 64 [.ref 0, .int x0, .int x1] h (fun r h' => zR d 300 Q 434 lv (r.toList ++ []) h') := (q_clV rfl rfl (Nat.le_of_ble_eq_true rfl)).trans (zand_t ⟨rfl, Nat.le_of_ble_eq_true rfl⟩)
set_option maxRecDepth 100000 in
theorem r300_434 : zR d 300 Q 434 (o0 :: o1 :: some (.ref c) :: l) st h = zR d 300 Q 435 (o0 :: o1 :: some (.ref c) :: l) (.ref c :: st) h := q_in rfl rfl
set_option maxRecDepth 100000 in
theorem r300_435 : zR d 300 Q 435 (some (.ref c) :: l) st h = zR d 300 Q 436 (some (.ref c) :: l) (.ref c :: st) h := q_in rfl rfl
set_option maxRecDepth 100000 in
theorem r300_436 : zR d 300 Q 436 (o0 :: o1 :: o2 :: some (.int x) :: l) st h = zR d 300 Q 437 (o0 :: o1 :: o2 :: some (.int x) :: l) (.int x :: st) h := q_in rfl rfl
set_option maxRecDepth 100000 in
theorem r300_437 : zR d 300 Q 437 lv st h = zR d 300 Q 438 lv (.int 1 :: st) h := q_in rfl rfl
set_option maxRecDepth 100000 in
theorem r300_438 : zR d 300 Q 438 lv (.int z :: .int x :: st) h = zR d 300 Q 439 lv (.int (x + z) :: st) h := q_in rfl rfl
set_option maxRecDepth 100000 in
theorem r300_439 : zR d 300 Q 439 lv (.int x :: .ref c :: st) h = zal c x h (fun w => zR d 300 Q 440 lv (.int w :: st) h) := q_iald rfl
set_option maxRecDepth 100000 in
theorem r300_440 : zR d 300 Q 440 (some (.ref c) :: l) st h = zR d 300 Q 441 (some (.ref c) :: l) (.ref c :: st) h := q_in rfl rfl
set_option maxRecDepth 100000 in
theorem r300_441 : zR d 300 Q 441 (o0 :: o1 :: o2 :: some (.int x) :: l) st h = zR d 300 Q 442 (o0 :: o1 :: o2 :: some (.int x) :: l) (.int x :: st) h := q_in rfl rfl
set_option maxRecDepth 100000 in
theorem r300_442 : zR d 300 Q 442 lv st h = zR d 300 Q 443 lv (.int 2 :: st) h := q_in rfl rfl
set_option maxRecDepth 100000 in
theorem r300_443 : zR d 300 Q 443 lv (.int z :: .int x :: st) h = zR d 300 Q 444 lv (.int (x + z) :: st) h := q_in rfl rfl
set_option maxRecDepth 100000 in
theorem r300_444 : zR d 300 Q 444 lv (.int x :: .ref c :: st) h = zal c x h (fun w => zR d 300 Q 445 lv (.int w :: st) h) := q_iald rfl
set_option maxRecDepth 100000 in
theorem r300_445 : zR d 300 Q 445 lv [.int x1, .int x0, .ref 60, .int y0] h = zM d 133 [.ref 60, .int x0, .int x1] h (fun r h' => zR d 300 Q 448 lv (r.toList ++ [.int y0]) h') := (q_clV rfl rfl (Nat.le_of_ble_eq_true rfl)).trans (zand_t ⟨rfl, Nat.le_of_ble_eq_true rfl⟩)
set_option maxRecDepth 100000 in
theorem r300_448 : zR d 300 Q 448 lv (.int z :: .int x :: st) h = if x = z then zR d 300 Q 1375 lv st h else zR d 300 Q 451 lv st h := q_if rfl rfl
set_option maxRecDepth 100000 in
theorem r300_451 : zR d 300 Q 451 lv st h = zR d 300 Q 452 lv (.int 0 :: st) h := q_in rfl rfl
set_option maxRecDepth 100000 in
theorem r300_452f : zR d 300 Q 452 lv [.int 0] h = Q (some (.int 0)) h := q_retz rfl rfl (Or.inr (Or.inl rfl))
set_option maxRecDepth 100000 in
theorem r300_452t : zR d 300 Q 452 lv [.int 1] h = Q (some (.int 1)) h := q_retz rfl rfl (Or.inr (Or.inr rfl))
set_option maxRecDepth 100000 in
theorem r300_453 : zR d 300 Q 453 (o0 :: some (.ref c) :: l) st h = zR d 300 Q 454 (o0 :: some (.ref c) :: l) (.ref c :: st) h := q_in rfl rfl
set_option maxRecDepth 100000 in
theorem r300_454 : zR d 300 Q 454 (some (.ref c) :: l) st h = zR d 300 Q 455 (some (.ref c) :: l) (.ref c :: st) h := q_in rfl rfl
set_option maxRecDepth 100000 in
theorem r300_455 : zR d 300 Q 455 (o0 :: o1 :: o2 :: some (.int x) :: l) st h = zR d 300 Q 456 (o0 :: o1 :: o2 :: some (.int x) :: l) (.int x :: st) h := q_in rfl rfl
set_option maxRecDepth 100000 in
theorem r300_456 : zR d 300 Q 456 lv st h = zR d 300 Q 457 lv (.int 1 :: st) h := q_in rfl rfl
set_option maxRecDepth 100000 in
theorem r300_457 : zR d 300 Q 457 lv (.int z :: .int x :: st) h = zR d 300 Q 458 lv (.int (x + z) :: st) h := q_in rfl rfl
set_option maxRecDepth 100000 in
theorem r300_458 : zR d 300 Q 458 lv (.int x :: .ref c :: st) h = zal c x h (fun w => zR d 300 Q 459 lv (.int w :: st) h) := q_iald rfl
set_option maxRecDepth 100000 in
theorem r300_459 : zR d 300 Q 459 lv [.int x0, .ref 0] h = zM d 65 [.ref 0, .int x0] h (fun r h' => zR d 300 Q 462 lv (r.toList ++ []) h') := (q_clV rfl rfl (Nat.le_of_ble_eq_true rfl)).trans (zand_t ⟨rfl, Nat.le_of_ble_eq_true rfl⟩)
set_option maxRecDepth 100000 in
theorem r300_462 : zR d 300 Q 462 (o0 :: o1 :: some (.ref c) :: l) st h = zR d 300 Q 463 (o0 :: o1 :: some (.ref c) :: l) (.ref c :: st) h := q_in rfl rfl
set_option maxRecDepth 100000 in
theorem r300_463 : zR d 300 Q 463 (some (.ref c) :: l) st h = zR d 300 Q 464 (some (.ref c) :: l) (.ref c :: st) h := q_in rfl rfl
set_option maxRecDepth 100000 in
theorem r300_464 : zR d 300 Q 464 (o0 :: o1 :: o2 :: some (.int x) :: l) st h = zR d 300 Q 465 (o0 :: o1 :: o2 :: some (.int x) :: l) (.int x :: st) h := q_in rfl rfl
set_option maxRecDepth 100000 in
theorem r300_465 : zR d 300 Q 465 lv st h = zR d 300 Q 466 lv (.int 1 :: st) h := q_in rfl rfl
set_option maxRecDepth 100000 in
theorem r300_466 : zR d 300 Q 466 lv (.int z :: .int x :: st) h = zR d 300 Q 467 lv (.int (x + z) :: st) h := q_in rfl rfl
set_option maxRecDepth 100000 in
theorem r300_467 : zR d 300 Q 467 lv (.int x :: .ref c :: st) h = zal c x h (fun w => zR d 300 Q 468 lv (.int w :: st) h) := q_iald rfl
set_option maxRecDepth 100000 in
theorem r300_468 : zR d 300 Q 468 lv [.int x0, .ref 60, .int y0] h = zM d 135 [.ref 60, .int x0] h (fun r h' => zR d 300 Q 471 lv (r.toList ++ [.int y0]) h') := (q_clV rfl rfl (Nat.le_of_ble_eq_true rfl)).trans (zand_t ⟨rfl, Nat.le_of_ble_eq_true rfl⟩)
set_option maxRecDepth 100000 in
theorem r300_471 : zR d 300 Q 471 lv (.int z :: .int x :: st) h = if x = z then zR d 300 Q 1375 lv st h else zR d 300 Q 474 lv st h := q_if rfl rfl
set_option maxRecDepth 100000 in
theorem r300_474 : zR d 300 Q 474 lv st h = zR d 300 Q 475 lv (.int 0 :: st) h := q_in rfl rfl
set_option maxRecDepth 100000 in
theorem r300_475f : zR d 300 Q 475 lv [.int 0] h = Q (some (.int 0)) h := q_retz rfl rfl (Or.inr (Or.inl rfl))
set_option maxRecDepth 100000 in
theorem r300_475t : zR d 300 Q 475 lv [.int 1] h = Q (some (.int 1)) h := q_retz rfl rfl (Or.inr (Or.inr rfl))
set_option maxRecDepth 100000 in
theorem r300_476 : zR d 300 Q 476 (o0 :: some (.ref c) :: l) st h = zR d 300 Q 477 (o0 :: some (.ref c) :: l) (.ref c :: st) h := q_in rfl rfl
set_option maxRecDepth 100000 in
theorem r300_477 : zR d 300 Q 477 lv [.ref 0] h = zM d 66 [.ref 0] h (fun r h' => zR d 300 Q 480 lv (r.toList ++ []) h') := (q_clV rfl rfl (Nat.le_of_ble_eq_true rfl)).trans (zand_t ⟨rfl, Nat.le_of_ble_eq_true rfl⟩)
set_option maxRecDepth 100000 in
theorem r300_480 : zR d 300 Q 480 (o0 :: o1 :: some (.ref c) :: l) st h = zR d 300 Q 481 (o0 :: o1 :: some (.ref c) :: l) (.ref c :: st) h := q_in rfl rfl
set_option maxRecDepth 100000 in
theorem r300_481 : zR d 300 Q 481 lv [.ref 60, .int y0] h = zM d 138 [.ref 60] h (fun r h' => zR d 300 Q 484 lv (r.toList ++ [.int y0]) h') := (q_clV rfl rfl (Nat.le_of_ble_eq_true rfl)).trans (zand_t ⟨rfl, Nat.le_of_ble_eq_true rfl⟩)
set_option maxRecDepth 100000 in
theorem r300_484 : zR d 300 Q 484 lv (.int z :: .int x :: st) h = if x = z then zR d 300 Q 1375 lv st h else zR d 300 Q 487 lv st h := q_if rfl rfl
set_option maxRecDepth 100000 in
theorem r300_487 : zR d 300 Q 487 lv st h = zR d 300 Q 488 lv (.int 0 :: st) h := q_in rfl rfl
set_option maxRecDepth 100000 in
theorem r300_488f : zR d 300 Q 488 lv [.int 0] h = Q (some (.int 0)) h := q_retz rfl rfl (Or.inr (Or.inl rfl))
set_option maxRecDepth 100000 in
theorem r300_488t : zR d 300 Q 488 lv [.int 1] h = Q (some (.int 1)) h := q_retz rfl rfl (Or.inr (Or.inr rfl))
set_option maxRecDepth 100000 in
theorem r300_489 : zR d 300 Q 489 (o0 :: some (.ref c) :: l) st h = zR d 300 Q 490 (o0 :: some (.ref c) :: l) (.ref c :: st) h := q_in rfl rfl
set_option maxRecDepth 100000 in
theorem r300_490 : zR d 300 Q 490 (some (.ref c) :: l) st h = zR d 300 Q 491 (some (.ref c) :: l) (.ref c :: st) h := q_in rfl rfl
set_option maxRecDepth 100000 in
theorem r300_491 : zR d 300 Q 491 (o0 :: o1 :: o2 :: some (.int x) :: l) st h = zR d 300 Q 492 (o0 :: o1 :: o2 :: some (.int x) :: l) (.int x :: st) h := q_in rfl rfl
set_option maxRecDepth 100000 in
theorem r300_492 : zR d 300 Q 492 lv st h = zR d 300 Q 493 lv (.int 1 :: st) h := q_in rfl rfl
set_option maxRecDepth 100000 in
theorem r300_493 : zR d 300 Q 493 lv (.int z :: .int x :: st) h = zR d 300 Q 494 lv (.int (x + z) :: st) h := q_in rfl rfl
set_option maxRecDepth 100000 in
theorem r300_494 : zR d 300 Q 494 lv (.int x :: .ref c :: st) h = zal c x h (fun w => zR d 300 Q 495 lv (.int w :: st) h) := q_iald rfl
set_option maxRecDepth 100000 in
theorem r300_495 : zR d 300 Q 495 lv [.int x0, .ref 0] h = zM d 67 [.ref 0, .int x0] h (fun r h' => zR d 300 Q 498 lv (r.toList ++ []) h') := (q_clV rfl rfl (Nat.le_of_ble_eq_true rfl)).trans (zand_t ⟨rfl, Nat.le_of_ble_eq_true rfl⟩)
set_option maxRecDepth 100000 in
theorem r300_498 : zR d 300 Q 498 (o0 :: o1 :: some (.ref c) :: l) st h = zR d 300 Q 499 (o0 :: o1 :: some (.ref c) :: l) (.ref c :: st) h := q_in rfl rfl
set_option maxRecDepth 100000 in
theorem r300_499 : zR d 300 Q 499 (some (.ref c) :: l) st h = zR d 300 Q 500 (some (.ref c) :: l) (.ref c :: st) h := q_in rfl rfl
set_option maxRecDepth 100000 in
theorem r300_500 : zR d 300 Q 500 (o0 :: o1 :: o2 :: some (.int x) :: l) st h = zR d 300 Q 501 (o0 :: o1 :: o2 :: some (.int x) :: l) (.int x :: st) h := q_in rfl rfl
set_option maxRecDepth 100000 in
theorem r300_501 : zR d 300 Q 501 lv st h = zR d 300 Q 502 lv (.int 1 :: st) h := q_in rfl rfl
set_option maxRecDepth 100000 in
theorem r300_502 : zR d 300 Q 502 lv (.int z :: .int x :: st) h = zR d 300 Q 503 lv (.int (x + z) :: st) h := q_in rfl rfl
set_option maxRecDepth 100000 in
theorem r300_503 : zR d 300 Q 503 lv (.int x :: .ref c :: st) h = zal c x h (fun w => zR d 300 Q 504 lv (.int w :: st) h) := q_iald rfl
set_option maxRecDepth 100000 in
theorem r300_504 : zR d 300 Q 504 lv [.int x0, .ref 60, .int y0] h = zM d 139 [.ref 60, .int x0] h (fun r h' => zR d 300 Q 507 lv (r.toList ++ [.int y0]) h') := (q_clV rfl rfl (Nat.le_of_ble_eq_true rfl)).trans (zand_t ⟨rfl, Nat.le_of_ble_eq_true rfl⟩)
set_option maxRecDepth 100000 in
theorem r300_507 : zR d 300 Q 507 lv (.int z :: .int x :: st) h = if x = z then zR d 300 Q 1375 lv st h else zR d 300 Q 510 lv st h := q_if rfl rfl
set_option maxRecDepth 100000 in
theorem r300_510 : zR d 300 Q 510 lv st h = zR d 300 Q 511 lv (.int 0 :: st) h := q_in rfl rfl
set_option maxRecDepth 100000 in
theorem r300_511f : zR d 300 Q 511 lv [.int 0] h = Q (some (.int 0)) h := q_retz rfl rfl (Or.inr (Or.inl rfl))
set_option maxRecDepth 100000 in
theorem r300_511t : zR d 300 Q 511 lv [.int 1] h = Q (some (.int 1)) h := q_retz rfl rfl (Or.inr (Or.inr rfl))
set_option maxRecDepth 100000 in
theorem r300_512 : zR d 300 Q 512 (o0 :: some (.ref c) :: l) st h = zR d 300 Q 513 (o0 :: some (.ref c) :: l) (.ref c :: st) h := q_in rfl rfl
set_option maxRecDepth 100000 in
theorem r300_513 : zR d 300 Q 513 (some (.ref c) :: l) st h = zR d 300 Q 514 (some (.ref c) :: l) (.ref c :: st) h := q_in rfl rfl
set_option maxRecDepth 100000 in
theorem r300_514 : zR d 300 Q 514 (o0 :: o1 :: o2 :: some (.int x) :: l) st h = zR d 300 Q 515 (o0 :: o1 :: o2 :: some (.int x) :: l) (.int x :: st) h := q_in rfl rfl
set_option maxRecDepth 100000 in
theorem r300_515 : zR d 300 Q 515 lv st h = zR d 300 Q 516 lv (.int 1 :: st) h := q_in rfl rfl
set_option maxRecDepth 100000 in
theorem r300_516 : zR d 300 Q 516 lv (.int z :: .int x :: st) h = zR d 300 Q 517 lv (.int (x + z) :: st) h := q_in rfl rfl
set_option maxRecDepth 100000 in
theorem r300_517 : zR d 300 Q 517 lv (.int x :: .ref c :: st) h = zal c x h (fun w => zR d 300 Q 518 lv (.int w :: st) h) := q_iald rfl
set_option maxRecDepth 100000 in
theorem r300_518 : zR d 300 Q 518 lv [.int x0, .ref 0] h = zM d 68 [.ref 0, .int x0] h (fun r h' => zR d 300 Q 521 lv (r.toList ++ []) h') := (q_clV rfl rfl (Nat.le_of_ble_eq_true rfl)).trans (zand_t ⟨rfl, Nat.le_of_ble_eq_true rfl⟩)
set_option maxRecDepth 100000 in
theorem r300_521 : zR d 300 Q 521 (o0 :: o1 :: some (.ref c) :: l) st h = zR d 300 Q 522 (o0 :: o1 :: some (.ref c) :: l) (.ref c :: st) h := q_in rfl rfl
set_option maxRecDepth 100000 in
theorem r300_522 : zR d 300 Q 522 (some (.ref c) :: l) st h = zR d 300 Q 523 (some (.ref c) :: l) (.ref c :: st) h := q_in rfl rfl
set_option maxRecDepth 100000 in
theorem r300_523 : zR d 300 Q 523 (o0 :: o1 :: o2 :: some (.int x) :: l) st h = zR d 300 Q 524 (o0 :: o1 :: o2 :: some (.int x) :: l) (.int x :: st) h := q_in rfl rfl
set_option maxRecDepth 100000 in
theorem r300_524 : zR d 300 Q 524 lv st h = zR d 300 Q 525 lv (.int 1 :: st) h := q_in rfl rfl
set_option maxRecDepth 100000 in
theorem r300_525 : zR d 300 Q 525 lv (.int z :: .int x :: st) h = zR d 300 Q 526 lv (.int (x + z) :: st) h := q_in rfl rfl
set_option maxRecDepth 100000 in
theorem r300_526 : zR d 300 Q 526 lv (.int x :: .ref c :: st) h = zal c x h (fun w => zR d 300 Q 527 lv (.int w :: st) h) := q_iald rfl
set_option maxRecDepth 100000 in
theorem r300_527 : zR d 300 Q 527 lv [.int x0, .ref 60, .int y0] h = zM d 140 [.ref 60, .int x0] h (fun r h' => zR d 300 Q 530 lv (r.toList ++ [.int y0]) h') := (q_clV rfl rfl (Nat.le_of_ble_eq_true rfl)).trans (zand_t ⟨rfl, Nat.le_of_ble_eq_true rfl⟩)
set_option maxRecDepth 100000 in
theorem r300_530 : zR d 300 Q 530 lv (.int z :: .int x :: st) h = if x = z then zR d 300 Q 1375 lv st h else zR d 300 Q 533 lv st h := q_if rfl rfl
set_option maxRecDepth 100000 in
theorem r300_533 : zR d 300 Q 533 lv st h = zR d 300 Q 534 lv (.int 0 :: st) h := q_in rfl rfl
set_option maxRecDepth 100000 in
theorem r300_534f : zR d 300 Q 534 lv [.int 0] h = Q (some (.int 0)) h := q_retz rfl rfl (Or.inr (Or.inl rfl))
set_option maxRecDepth 100000 in
theorem r300_534t : zR d 300 Q 534 lv [.int 1] h = Q (some (.int 1)) h := q_retz rfl rfl (Or.inr (Or.inr rfl))
set_option maxRecDepth 100000 in
theorem r300_535 : zR d 300 Q 535 (o0 :: some (.ref c) :: l) st h = zR d 300 Q 536 (o0 :: some (.ref c) :: l) (.ref c :: st) h := q_in rfl rfl
set_option maxRecDepth 100000 in
theorem r300_536 : zR d 300 Q 536 (some (.ref c) :: l) st h = zR d 300 Q 537 (some (.ref c) :: l) (.ref c :: st) h := q_in rfl rfl
set_option maxRecDepth 100000 in
theorem r300_537 : zR d 300 Q 537 (o0 :: o1 :: o2 :: some (.int x) :: l) st h = zR d 300 Q 538 (o0 :: o1 :: o2 :: some (.int x) :: l) (.int x :: st) h := q_in rfl rfl
set_option maxRecDepth 100000 in
theorem r300_538 : zR d 300 Q 538 lv st h = zR d 300 Q 539 lv (.int 1 :: st) h := q_in rfl rfl
set_option maxRecDepth 100000 in
theorem r300_539 : zR d 300 Q 539 lv (.int z :: .int x :: st) h = zR d 300 Q 540 lv (.int (x + z) :: st) h := q_in rfl rfl
set_option maxRecDepth 100000 in
theorem r300_540 : zR d 300 Q 540 lv (.int x :: .ref c :: st) h = zal c x h (fun w => zR d 300 Q 541 lv (.int w :: st) h) := q_iald rfl
set_option maxRecDepth 100000 in
theorem r300_541 : zR d 300 Q 541 lv [.int x0, .ref 0] h = zM d 69 [.ref 0, .int x0] h (fun r h' => zR d 300 Q 544 lv (r.toList ++ []) h') := (q_clV rfl rfl (Nat.le_of_ble_eq_true rfl)).trans (zand_t ⟨rfl, Nat.le_of_ble_eq_true rfl⟩)
set_option maxRecDepth 100000 in
theorem r300_544 : zR d 300 Q 544 (o0 :: o1 :: some (.ref c) :: l) st h = zR d 300 Q 545 (o0 :: o1 :: some (.ref c) :: l) (.ref c :: st) h := q_in rfl rfl
set_option maxRecDepth 100000 in
theorem r300_545 : zR d 300 Q 545 (some (.ref c) :: l) st h = zR d 300 Q 546 (some (.ref c) :: l) (.ref c :: st) h := q_in rfl rfl
set_option maxRecDepth 100000 in
theorem r300_546 : zR d 300 Q 546 (o0 :: o1 :: o2 :: some (.int x) :: l) st h = zR d 300 Q 547 (o0 :: o1 :: o2 :: some (.int x) :: l) (.int x :: st) h := q_in rfl rfl
set_option maxRecDepth 100000 in
theorem r300_547 : zR d 300 Q 547 lv st h = zR d 300 Q 548 lv (.int 1 :: st) h := q_in rfl rfl
set_option maxRecDepth 100000 in
theorem r300_548 : zR d 300 Q 548 lv (.int z :: .int x :: st) h = zR d 300 Q 549 lv (.int (x + z) :: st) h := q_in rfl rfl
set_option maxRecDepth 100000 in
theorem r300_549 : zR d 300 Q 549 lv (.int x :: .ref c :: st) h = zal c x h (fun w => zR d 300 Q 550 lv (.int w :: st) h) := q_iald rfl
set_option maxRecDepth 100000 in
theorem r300_550 : zR d 300 Q 550 lv [.int x0, .ref 60, .int y0] h = zM d 145 [.ref 60, .int x0] h (fun r h' => zR d 300 Q 553 lv (r.toList ++ [.int y0]) h') := (q_clV rfl rfl (Nat.le_of_ble_eq_true rfl)).trans (zand_t ⟨rfl, Nat.le_of_ble_eq_true rfl⟩)
set_option maxRecDepth 100000 in
theorem r300_553 : zR d 300 Q 553 lv (.int z :: .int x :: st) h = if x = z then zR d 300 Q 1375 lv st h else zR d 300 Q 556 lv st h := q_if rfl rfl
set_option maxRecDepth 100000 in
theorem r300_556 : zR d 300 Q 556 lv st h = zR d 300 Q 557 lv (.int 0 :: st) h := q_in rfl rfl
set_option maxRecDepth 100000 in
theorem r300_557f : zR d 300 Q 557 lv [.int 0] h = Q (some (.int 0)) h := q_retz rfl rfl (Or.inr (Or.inl rfl))
set_option maxRecDepth 100000 in
theorem r300_557t : zR d 300 Q 557 lv [.int 1] h = Q (some (.int 1)) h := q_retz rfl rfl (Or.inr (Or.inr rfl))
set_option maxRecDepth 100000 in
theorem r300_558 : zR d 300 Q 558 (o0 :: some (.ref c) :: l) st h = zR d 300 Q 559 (o0 :: some (.ref c) :: l) (.ref c :: st) h := q_in rfl rfl
set_option maxRecDepth 100000 in
theorem r300_559 : zR d 300 Q 559 (some (.ref c) :: l) st h = zR d 300 Q 560 (some (.ref c) :: l) (.ref c :: st) h := q_in rfl rfl
set_option maxRecDepth 100000 in
theorem r300_560 : zR d 300 Q 560 (o0 :: o1 :: o2 :: some (.int x) :: l) st h = zR d 300 Q 561 (o0 :: o1 :: o2 :: some (.int x) :: l) (.int x :: st) h := q_in rfl rfl
set_option maxRecDepth 100000 in
theorem r300_561 : zR d 300 Q 561 lv st h = zR d 300 Q 562 lv (.int 1 :: st) h := q_in rfl rfl
set_option maxRecDepth 100000 in
theorem r300_562 : zR d 300 Q 562 lv (.int z :: .int x :: st) h = zR d 300 Q 563 lv (.int (x + z) :: st) h := q_in rfl rfl
set_option maxRecDepth 100000 in
theorem r300_563 : zR d 300 Q 563 lv (.int x :: .ref c :: st) h = zal c x h (fun w => zR d 300 Q 564 lv (.int w :: st) h) := q_iald rfl
set_option maxRecDepth 100000 in
theorem r300_564 : zR d 300 Q 564 lv [.int x0, .ref 0] h = zM d 70 [.ref 0, .int x0] h (fun r h' => zR d 300 Q 567 lv (r.toList ++ []) h') := (q_clV rfl rfl (Nat.le_of_ble_eq_true rfl)).trans (zand_t ⟨rfl, Nat.le_of_ble_eq_true rfl⟩)
set_option maxRecDepth 100000 in
theorem r300_567 : zR d 300 Q 567 (o0 :: o1 :: some (.ref c) :: l) st h = zR d 300 Q 568 (o0 :: o1 :: some (.ref c) :: l) (.ref c :: st) h := q_in rfl rfl
set_option maxRecDepth 100000 in
theorem r300_568 : zR d 300 Q 568 (some (.ref c) :: l) st h = zR d 300 Q 569 (some (.ref c) :: l) (.ref c :: st) h := q_in rfl rfl
set_option maxRecDepth 100000 in
theorem r300_569 : zR d 300 Q 569 (o0 :: o1 :: o2 :: some (.int x) :: l) st h = zR d 300 Q 570 (o0 :: o1 :: o2 :: some (.int x) :: l) (.int x :: st) h := q_in rfl rfl
set_option maxRecDepth 100000 in
theorem r300_570 : zR d 300 Q 570 lv st h = zR d 300 Q 571 lv (.int 1 :: st) h := q_in rfl rfl
set_option maxRecDepth 100000 in
theorem r300_571 : zR d 300 Q 571 lv (.int z :: .int x :: st) h = zR d 300 Q 572 lv (.int (x + z) :: st) h := q_in rfl rfl
set_option maxRecDepth 100000 in
theorem r300_572 : zR d 300 Q 572 lv (.int x :: .ref c :: st) h = zal c x h (fun w => zR d 300 Q 573 lv (.int w :: st) h) := q_iald rfl
set_option maxRecDepth 100000 in
theorem r300_573 : zR d 300 Q 573 lv [.int x0, .ref 60, .int y0] h = zM d 147 [.ref 60, .int x0] h (fun r h' => zR d 300 Q 576 lv (r.toList ++ [.int y0]) h') := (q_clV rfl rfl (Nat.le_of_ble_eq_true rfl)).trans (zand_t ⟨rfl, Nat.le_of_ble_eq_true rfl⟩)
set_option maxRecDepth 100000 in
theorem r300_576 : zR d 300 Q 576 lv (.int z :: .int x :: st) h = if x = z then zR d 300 Q 1375 lv st h else zR d 300 Q 579 lv st h := q_if rfl rfl
set_option maxRecDepth 100000 in
theorem r300_579 : zR d 300 Q 579 lv st h = zR d 300 Q 580 lv (.int 0 :: st) h := q_in rfl rfl
set_option maxRecDepth 100000 in
theorem r300_580f : zR d 300 Q 580 lv [.int 0] h = Q (some (.int 0)) h := q_retz rfl rfl (Or.inr (Or.inl rfl))
set_option maxRecDepth 100000 in
theorem r300_580t : zR d 300 Q 580 lv [.int 1] h = Q (some (.int 1)) h := q_retz rfl rfl (Or.inr (Or.inr rfl))
set_option maxRecDepth 100000 in
theorem r300_581 : zR d 300 Q 581 (o0 :: some (.ref c) :: l) st h = zR d 300 Q 582 (o0 :: some (.ref c) :: l) (.ref c :: st) h := q_in rfl rfl
set_option maxRecDepth 100000 in
theorem r300_582 : zR d 300 Q 582 lv [.ref 0] h = zM d 71 [.ref 0] h (fun r h' => zR d 300 Q 585 lv (r.toList ++ []) h') := (q_clV rfl rfl (Nat.le_of_ble_eq_true rfl)).trans (zand_t ⟨rfl, Nat.le_of_ble_eq_true rfl⟩)
set_option maxRecDepth 100000 in
theorem r300_585 : zR d 300 Q 585 (o0 :: o1 :: some (.ref c) :: l) st h = zR d 300 Q 586 (o0 :: o1 :: some (.ref c) :: l) (.ref c :: st) h := q_in rfl rfl
set_option maxRecDepth 100000 in
theorem r300_586 : zR d 300 Q 586 lv [.ref 60, .int y0] h = zM d 148 [.ref 60] h (fun r h' => zR d 300 Q 589 lv (r.toList ++ [.int y0]) h') := (q_clV rfl rfl (Nat.le_of_ble_eq_true rfl)).trans (zand_t ⟨rfl, Nat.le_of_ble_eq_true rfl⟩)
set_option maxRecDepth 100000 in
theorem r300_589 : zR d 300 Q 589 lv (.int z :: .int x :: st) h = if x = z then zR d 300 Q 1375 lv st h else zR d 300 Q 592 lv st h := q_if rfl rfl
set_option maxRecDepth 100000 in
theorem r300_592 : zR d 300 Q 592 lv st h = zR d 300 Q 593 lv (.int 0 :: st) h := q_in rfl rfl
set_option maxRecDepth 100000 in
theorem r300_593f : zR d 300 Q 593 lv [.int 0] h = Q (some (.int 0)) h := q_retz rfl rfl (Or.inr (Or.inl rfl))
set_option maxRecDepth 100000 in
theorem r300_593t : zR d 300 Q 593 lv [.int 1] h = Q (some (.int 1)) h := q_retz rfl rfl (Or.inr (Or.inr rfl))
set_option maxRecDepth 100000 in
theorem r300_594 : zR d 300 Q 594 (o0 :: some (.ref c) :: l) st h = zR d 300 Q 595 (o0 :: some (.ref c) :: l) (.ref c :: st) h := q_in rfl rfl
set_option maxRecDepth 100000 in
theorem r300_595 : zR d 300 Q 595 (some (.ref c) :: l) st h = zR d 300 Q 596 (some (.ref c) :: l) (.ref c :: st) h := q_in rfl rfl
set_option maxRecDepth 100000 in
theorem r300_596 : zR d 300 Q 596 (o0 :: o1 :: o2 :: some (.int x) :: l) st h = zR d 300 Q 597 (o0 :: o1 :: o2 :: some (.int x) :: l) (.int x :: st) h := q_in rfl rfl
set_option maxRecDepth 100000 in
theorem r300_597 : zR d 300 Q 597 lv st h = zR d 300 Q 598 lv (.int 1 :: st) h := q_in rfl rfl
set_option maxRecDepth 100000 in
theorem r300_598 : zR d 300 Q 598 lv (.int z :: .int x :: st) h = zR d 300 Q 599 lv (.int (x + z) :: st) h := q_in rfl rfl
set_option maxRecDepth 100000 in
theorem r300_599 : zR d 300 Q 599 lv (.int x :: .ref c :: st) h = zal c x h (fun w => zR d 300 Q 600 lv (.int w :: st) h) := q_iald rfl
set_option maxRecDepth 100000 in
theorem r300_600 : zR d 300 Q 600 lv [.int x0, .ref 0] h = zM d 72 [.ref 0, .int x0] h (fun r h' => zR d 300 Q 603 lv (r.toList ++ []) h') := (q_clV rfl rfl (Nat.le_of_ble_eq_true rfl)).trans (zand_t ⟨rfl, Nat.le_of_ble_eq_true rfl⟩)
set_option maxRecDepth 100000 in
theorem r300_603 : zR d 300 Q 603 (o0 :: o1 :: some (.ref c) :: l) st h = zR d 300 Q 604 (o0 :: o1 :: some (.ref c) :: l) (.ref c :: st) h := q_in rfl rfl
set_option maxRecDepth 100000 in
theorem r300_604 : zR d 300 Q 604 (some (.ref c) :: l) st h = zR d 300 Q 605 (some (.ref c) :: l) (.ref c :: st) h := q_in rfl rfl
set_option maxRecDepth 100000 in
theorem r300_605 : zR d 300 Q 605 (o0 :: o1 :: o2 :: some (.int x) :: l) st h = zR d 300 Q 606 (o0 :: o1 :: o2 :: some (.int x) :: l) (.int x :: st) h := q_in rfl rfl
set_option maxRecDepth 100000 in
theorem r300_606 : zR d 300 Q 606 lv st h = zR d 300 Q 607 lv (.int 1 :: st) h := q_in rfl rfl
set_option maxRecDepth 100000 in
theorem r300_607 : zR d 300 Q 607 lv (.int z :: .int x :: st) h = zR d 300 Q 608 lv (.int (x + z) :: st) h := q_in rfl rfl
set_option maxRecDepth 100000 in
theorem r300_608 : zR d 300 Q 608 lv (.int x :: .ref c :: st) h = zal c x h (fun w => zR d 300 Q 609 lv (.int w :: st) h) := q_iald rfl
set_option maxRecDepth 100000 in
theorem r300_609 : zR d 300 Q 609 lv [.int x0, .ref 60, .int y0] h = zM d 149 [.ref 60, .int x0] h (fun r h' => zR d 300 Q 612 lv (r.toList ++ [.int y0]) h') := (q_clV rfl rfl (Nat.le_of_ble_eq_true rfl)).trans (zand_t ⟨rfl, Nat.le_of_ble_eq_true rfl⟩)
set_option maxRecDepth 100000 in
theorem r300_612 : zR d 300 Q 612 lv (.int z :: .int x :: st) h = if x = z then zR d 300 Q 1375 lv st h else zR d 300 Q 615 lv st h := q_if rfl rfl
set_option maxRecDepth 100000 in
theorem r300_615 : zR d 300 Q 615 lv st h = zR d 300 Q 616 lv (.int 0 :: st) h := q_in rfl rfl
set_option maxRecDepth 100000 in
theorem r300_616f : zR d 300 Q 616 lv [.int 0] h = Q (some (.int 0)) h := q_retz rfl rfl (Or.inr (Or.inl rfl))
set_option maxRecDepth 100000 in
theorem r300_616t : zR d 300 Q 616 lv [.int 1] h = Q (some (.int 1)) h := q_retz rfl rfl (Or.inr (Or.inr rfl))
set_option maxRecDepth 100000 in
theorem r300_617 : zR d 300 Q 617 (o0 :: some (.ref c) :: l) st h = zR d 300 Q 618 (o0 :: some (.ref c) :: l) (.ref c :: st) h := q_in rfl rfl
set_option maxRecDepth 100000 in
theorem r300_618 : zR d 300 Q 618 (some (.ref c) :: l) st h = zR d 300 Q 619 (some (.ref c) :: l) (.ref c :: st) h := q_in rfl rfl
set_option maxRecDepth 100000 in
theorem r300_619 : zR d 300 Q 619 (o0 :: o1 :: o2 :: some (.int x) :: l) st h = zR d 300 Q 620 (o0 :: o1 :: o2 :: some (.int x) :: l) (.int x :: st) h := q_in rfl rfl
set_option maxRecDepth 100000 in
theorem r300_620 : zR d 300 Q 620 lv st h = zR d 300 Q 621 lv (.int 1 :: st) h := q_in rfl rfl
set_option maxRecDepth 100000 in
theorem r300_621 : zR d 300 Q 621 lv (.int z :: .int x :: st) h = zR d 300 Q 622 lv (.int (x + z) :: st) h := q_in rfl rfl
set_option maxRecDepth 100000 in
theorem r300_622 : zR d 300 Q 622 lv (.int x :: .ref c :: st) h = zal c x h (fun w => zR d 300 Q 623 lv (.int w :: st) h) := q_iald rfl
set_option maxRecDepth 100000 in
theorem r300_623 : zR d 300 Q 623 (some (.ref c) :: l) st h = zR d 300 Q 624 (some (.ref c) :: l) (.ref c :: st) h := q_in rfl rfl
end
