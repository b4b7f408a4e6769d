/-! the law: an equation for each instruction, written by program -/
section UU
variable {sc : zk_X} {d : Nat} {st : List Value} {M : zk_M} {P : Option Value → zk_M → Prop}
theorem um217 : zk_mt 217 = some zm_217 := rfl
set_option maxRecDepth 20000 in
theorem u217_16 {x0 x1 x2 x3 : Option Value} : zk_R sc d 217 16 [x0, x1, x2, x3] st M P = zk_R sc d 217 17 [x0, x1, x2, x3] (.int 0 :: st) M P := zr_iconst um217 (rfl : zk_lk zm_217.2.2.2.2.2 16 = some (.iconst 0)) (by decide)
set_option maxRecDepth 20000 in
theorem u217_17 {x0 x1 x2 x3 : Option Value} {v : Int32} : zk_R sc d 217 17 [x0, x1, x2, x3] (.int v :: st) M P = zk_R sc d 217 18 [x0, x1, x2, some (.int v)] st M P := zk_R_nx um217 (rfl : zk_lk zm_217.2.2.2.2.2 17 = some (.istore_n 3)) rfl
set_option maxRecDepth 20000 in
theorem u217_18 {x0 x1 x2 : Option Value} {v : Int32} : zk_R sc d 217 18 [x0, x1, x2, some (.int v)] st M P = zk_R sc d 217 19 [x0, x1, x2, some (.int v)] (.int v :: st) M P := zk_R_nx um217 (rfl : zk_lk zm_217.2.2.2.2.2 18 = some (.iload_n 3)) rfl
set_option maxRecDepth 20000 in
theorem u217_19 {x1 x2 x3 : Option Value} {v : Nat} : zk_R sc d 217 19 [some (.ref v), x1, x2, x3] st M P = zk_R sc d 217 20 [some (.ref v), x1, x2, x3] (.ref v :: st) M P := zk_R_nx um217 (rfl : zk_lk zm_217.2.2.2.2.2 19 = some (.aload_n 0)) rfl
set_option maxRecDepth 20000 in
theorem u217_21 {x0 x1 x2 x3 : Option Value} : zk_R sc d 217 21 [x0, x1, x2, x3] st M P = zk_R sc d 217 23 [x0, x1, x2, x3] (.int 7 :: st) M P := zr_bipush um217 (rfl : zk_lk zm_217.2.2.2.2.2 21 = some (.bipush 7)) (by decide)
set_option maxRecDepth 20000 in
theorem u217_23 {x0 x1 x2 x3 : Option Value} {v w : Int32} : zk_R sc d 217 23 [x0, x1, x2, x3] (.int w :: .int v :: st) M P = zk_R sc d 217 24 [x0, x1, x2, x3] (.int (v - w) :: st) M P := zk_R_nx um217 (rfl : zk_lk zm_217.2.2.2.2.2 23 = some (.isub)) rfl
set_option maxRecDepth 20000 in
theorem u217_24 {x0 x1 x2 x3 : Option Value} {x y : Int32} : zk_R sc d 217 24 [x0, x1, x2, x3] (.int y :: .int x :: st) M P = if y < x then zk_R sc d 217 1418 [x0, x1, x2, x3] st M P else zk_R sc d 217 27 [x0, x1, x2, x3] st M P := zr_ic_gt um217 (rfl : zk_lk zm_217.2.2.2.2.2 24 = some (.if_icmp .gt (1394))) (by decide)
set_option maxRecDepth 20000 in
theorem u217_27 {x1 x2 x3 : Option Value} {v : Nat} : zk_R sc d 217 27 [some (.ref v), x1, x2, x3] st M P = zk_R sc d 217 28 [some (.ref v), x1, x2, x3] (.ref v :: st) M P := zk_R_nx um217 (rfl : zk_lk zm_217.2.2.2.2.2 27 = some (.aload_n 0)) rfl
set_option maxRecDepth 20000 in
theorem u217_28 {x0 x1 x2 : Option Value} {v : Int32} : zk_R sc d 217 28 [x0, x1, x2, some (.int v)] st M P = zk_R sc d 217 29 [x0, x1, x2, some (.int v)] (.int v :: st) M P := zk_R_nx um217 (rfl : zk_lk zm_217.2.2.2.2.2 28 = some (.iload_n 3)) rfl
set_option maxRecDepth 20000 in
theorem u217_30 {x0 x1 x2 x3 : Option Value} : zk_R sc d 217 30 [x0, x1, x2, x3] st M P = zk_R sc d 217 32 [x0, x1, x2, x3] (.int 63 :: st) M P := zr_bipush um217 (rfl : zk_lk zm_217.2.2.2.2.2 30 = some (.bipush 63)) (by decide)
set_option maxRecDepth 20000 in
theorem u217_32 {x0 x1 x2 x3 : Option Value} {v w : Int32} : zk_R sc d 217 32 [x0, x1, x2, x3] (.int w :: .int v :: st) M P = zk_R sc d 217 33 [x0, x1, x2, x3] (.int (v &&& w) :: st) M P := zk_R_nx um217 (rfl : zk_lk zm_217.2.2.2.2.2 32 = some (.iand)) rfl
set_option maxRecDepth 20000 in
theorem u217_33 {x0 x1 x2 x3 : Option Value} {x : Int32} : zk_R sc d 217 33 [x0, x1, x2, x3] (.int x :: st) M P = zk_R sc d 217 (zk_sw 33 (1379) (0) (39) #[175, 198, 273, 286, 309, 352, 385, 398, 431, 464, 497, 510, 523, 556, 579, 612, 635, 658, 691, 714, 727, 740, 773, 796, 829, 852, 875, 909, 932, 975, 1008, 1041, 1064, 1118, 1131, 1144, 1187, 1230, 1293, 1346] x) [x0, x1, x2, x3] st M P := zr_sw um217 (rfl : zk_lk zm_217.2.2.2.2.2 33 = some (.tableswitch (1379) (0) (39) #[175, 198, 273, 286, 309, 352, 385, 398, 431, 464, 497, 510, 523, 556, 579, 612, 635, 658, 691, 714, 727, 740, 773, 796, 829, 852, 875, 909, 932, 975, 1008, 1041, 1064, 1118, 1131, 1144, 1187, 1230, 1293, 1346])) (by decide)
set_option maxRecDepth 20000 in
theorem u217_208 {x0 x2 x3 : Option Value} {v : Nat} : zk_R sc d 217 208 [x0, some (.ref v), x2, x3] st M P = zk_R sc d 217 209 [x0, some (.ref v), x2, x3] (.ref v :: st) M P := zk_R_nx um217 (rfl : zk_lk zm_217.2.2.2.2.2 208 = some (.aload_n 1)) rfl
set_option maxRecDepth 20000 in
theorem u217_209 {x1 x2 x3 : Option Value} {v : Nat} : zk_R sc d 217 209 [some (.ref v), x1, x2, x3] st M P = zk_R sc d 217 210 [some (.ref v), x1, x2, x3] (.ref v :: st) M P := zk_R_nx um217 (rfl : zk_lk zm_217.2.2.2.2.2 209 = some (.aload_n 0)) rfl
set_option maxRecDepth 20000 in
theorem u217_210 {x0 x1 x2 : Option Value} {v : Int32} : zk_R sc d 217 210 [x0, x1, x2, some (.int v)] st M P = zk_R sc d 217 211 [x0, x1, x2, some (.int v)] (.int v :: st) M P := zk_R_nx um217 (rfl : zk_lk zm_217.2.2.2.2.2 210 = some (.iload_n 3)) rfl
set_option maxRecDepth 20000 in
theorem u217_211 {x0 x1 x2 x3 : Option Value} : zk_R sc d 217 211 [x0, x1, x2, x3] st M P = zk_R sc d 217 212 [x0, x1, x2, x3] (.int 1 :: st) M P := zr_iconst um217 (rfl : zk_lk zm_217.2.2.2.2.2 211 = some (.iconst 1)) (by decide)
set_option maxRecDepth 20000 in
theorem u217_212 {x0 x1 x2 x3 : Option Value} {v w : Int32} : zk_R sc d 217 212 [x0, x1, x2, x3] (.int w :: .int v :: st) M P = zk_R sc d 217 213 [x0, x1, x2, x3] (.int (v + w) :: st) M P := zk_R_nx um217 (rfl : zk_lk zm_217.2.2.2.2.2 212 = some (.iadd)) rfl
set_option maxRecDepth 20000 in
theorem u217_214 {x0 x1 x2 x3 : Option Value} {a0 : Nat} {a1 : Int32} (h1 : a0 < M.1) (h2 : (zk_sh a0).1 = 0) (h3 : (zk_sh a0).2.1 = 0) : zk_R sc (d + 1) 217 214 [x0, x1, x2, x3] [.int a1, .ref a0] M P = zk_R sc d 1 0 [some (.ref a0), some (.int a1)] [] M (fun r M' => zk_R sc (d + 1) 217 217 [x0, x1, x2, x3] (r.toList ++ []) M' P) := zr_iv (as := [.int a1]) (rest := []) um217 (rfl : zk_lk zm_217.2.2.2.2.2 214 = some (.invokevirtual 13)) rfl (rfl : zk_mt 1 = some zm_1) rfl rfl rfl rfl rfl h1 h2 h3
set_option maxRecDepth 20000 in
theorem u217_217 {x0 x1 x3 : Option Value} {v : Nat} : zk_R sc d 217 217 [x0, x1, some (.ref v), x3] st M P = zk_R sc d 217 218 [x0, x1, some (.ref v), x3] (.ref v :: st) M P := zk_R_nx um217 (rfl : zk_lk zm_217.2.2.2.2.2 217 = some (.aload_n 2)) rfl
set_option maxRecDepth 20000 in
theorem u217_218 {x1 x2 x3 : Option Value} {v : Nat} : zk_R sc d 217 218 [some (.ref v), x1, x2, x3] st M P = zk_R sc d 217 219 [some (.ref v), x1, x2, x3] (.ref v :: st) M P := zk_R_nx um217 (rfl : zk_lk zm_217.2.2.2.2.2 218 = some (.aload_n 0)) rfl
set_option maxRecDepth 20000 in
theorem u217_219 {x0 x1 x2 : Option Value} {v : Int32} : zk_R sc d 217 219 [x0, x1, x2, some (.int v)] st M P = zk_R sc d 217 220 [x0, x1, x2, some (.int v)] (.int v :: st) M P := zk_R_nx um217 (rfl : zk_lk zm_217.2.2.2.2.2 219 = some (.iload_n 3)) rfl
set_option maxRecDepth 20000 in
theorem u217_220 {x0 x1 x2 x3 : Option Value} : zk_R sc d 217 220 [x0, x1, x2, x3] st M P = zk_R sc d 217 221 [x0, x1, x2, x3] (.int 1 :: st) M P := zr_iconst um217 (rfl : zk_lk zm_217.2.2.2.2.2 220 = some (.iconst 1)) (by decide)
set_option maxRecDepth 20000 in
theorem u217_221 {x0 x1 x2 x3 : Option Value} {v w : Int32} : zk_R sc d 217 221 [x0, x1, x2, x3] (.int w :: .int v :: st) M P = zk_R sc d 217 222 [x0, x1, x2, x3] (.int (v + w) :: st) M P := zk_R_nx um217 (rfl : zk_lk zm_217.2.2.2.2.2 221 = some (.iadd)) rfl
set_option maxRecDepth 20000 in
theorem u217_223 {x0 x1 x2 x3 : Option Value} {a0 : Nat} {a1 : Int32} {r0 : Int32} (h1 : a0 < M.1) (h2 : (zk_sh a0).1 = 0) (h3 : (zk_sh a0).2.1 = 6) : zk_R sc (d + 1) 217 223 [x0, x1, x2, x3] [.int a1, .ref a0, .int r0] M P = zk_R sc d 139 0 [some (.ref a0), some (.int a1)] [] M (fun r M' => zk_R sc (d + 1) 217 226 [x0, x1, x2, x3] (r.toList ++ [.int r0]) M' P) := zr_iv (as := [.int a1]) (rest := [.int r0]) um217 (rfl : zk_lk zm_217.2.2.2.2.2 223 = some (.invokevirtual 17)) rfl (rfl : zk_mt 139 = some zm_139) rfl rfl rfl rfl rfl h1 h2 h3
set_option maxRecDepth 20000 in
theorem u217_226 {x0 x1 x2 x3 : Option Value} {x y : Int32} : zk_R sc d 217 226 [x0, x1, x2, x3] (.int y :: .int x :: st) M P = if x = y then zk_R sc d 217 1412 [x0, x1, x2, x3] st M P else zk_R sc d 217 229 [x0, x1, x2, x3] st M P := zr_ic_eq um217 (rfl : zk_lk zm_217.2.2.2.2.2 226 = some (.if_icmp .eq (1186))) (by decide)
set_option maxRecDepth 20000 in
theorem u217_229 {x0 x1 x2 x3 : Option Value} : zk_R sc d 217 229 [x0, x1, x2, x3] st M P = zk_R sc d 217 230 [x0, x1, x2, x3] (.int 0 :: st) M P := zr_iconst um217 (rfl : zk_lk zm_217.2.2.2.2.2 229 = some (.iconst 0)) (by decide)
set_option maxRecDepth 20000 in
theorem u217_230 {x0 x1 x2 x3 : Option Value} {v : Int32} : zk_R sc d 217 230 [x0, x1, x2, x3] [.int v] M P = ((v = 0 ∨ v = 1) ∧ P (some (.int v)) M) := zr_retb um217 (rfl : zk_lk zm_217.2.2.2.2.2 230 = some (.ireturn)) rfl
set_option maxRecDepth 20000 in
theorem u217_231 {x0 x2 x3 : Option Value} {v : Nat} : zk_R sc d 217 231 [x0, some (.ref v), x2, x3] st M P = zk_R sc d 217 232 [x0, some (.ref v), x2, x3] (.ref v :: st) M P := zk_R_nx um217 (rfl : zk_lk zm_217.2.2.2.2.2 231 = some (.aload_n 1)) rfl
set_option maxRecDepth 20000 in
theorem u217_232 {x1 x2 x3 : Option Value} {v : Nat} : zk_R sc d 217 232 [some (.ref v), x1, x2, x3] st M P = zk_R sc d 217 233 [some (.ref v), x1, x2, x3] (.ref v :: st) M P := zk_R_nx um217 (rfl : zk_lk zm_217.2.2.2.2.2 232 = some (.aload_n 0)) rfl
set_option maxRecDepth 20000 in
theorem u217_233 {x0 x1 x2 : Option Value} {v : Int32} : zk_R sc d 217 233 [x0, x1, x2, some (.int v)] st M P = zk_R sc d 217 234 [x0, x1, x2, some (.int v)] (.int v :: st) M P := zk_R_nx um217 (rfl : zk_lk zm_217.2.2.2.2.2 233 = some (.iload_n 3)) rfl
set_option maxRecDepth 20000 in
theorem u217_234 {x0 x1 x2 x3 : Option Value} : zk_R sc d 217 234 [x0, x1, x2, x3] st M P = zk_R sc d 217 235 [x0, x1, x2, x3] (.int 1 :: st) M P := zr_iconst um217 (rfl : zk_lk zm_217.2.2.2.2.2 234 = some (.iconst 1)) (by decide)
set_option maxRecDepth 20000 in
theorem u217_235 {x0 x1 x2 x3 : Option Value} {v w : Int32} : zk_R sc d 217 235 [x0, x1, x2, x3] (.int w :: .int v :: st) M P = zk_R sc d 217 236 [x0, x1, x2, x3] (.int (v + w) :: st) M P := zk_R_nx um217 (rfl : zk_lk zm_217.2.2.2.2.2 235 = some (.iadd)) rfl
set_option maxRecDepth 20000 in
theorem u217_237 {x1 x2 x3 : Option Value} {v : Nat} : zk_R sc d 217 237 [some (.ref v), x1, x2, x3] st M P = zk_R sc d 217 238 [some (.ref v), x1, x2, x3] (.ref v :: st) M P := zk_R_nx um217 (rfl : zk_lk zm_217.2.2.2.2.2 237 = some (.aload_n 0)) rfl
set_option maxRecDepth 20000 in
theorem u217_238 {x0 x1 x2 : Option Value} {v : Int32} : zk_R sc d 217 238 [x0, x1, x2, some (.int v)] st M P = zk_R sc d 217 239 [x0, x1, x2, some (.int v)] (.int v :: st) M P := zk_R_nx um217 (rfl : zk_lk zm_217.2.2.2.2.2 238 = some (.iload_n 3)) rfl
set_option maxRecDepth 20000 in
theorem u217_239 {x0 x1 x2 x3 : Option Value} : zk_R sc d 217 239 [x0, x1, x2, x3] st M P = zk_R sc d 217 240 [x0, x1, x2, x3] (.int 2 :: st) M P := zr_iconst um217 (rfl : zk_lk zm_217.2.2.2.2.2 239 = some (.iconst 2)) (by decide)
set_option maxRecDepth 20000 in
theorem u217_240 {x0 x1 x2 x3 : Option Value} {v w : Int32} : zk_R sc d 217 240 [x0, x1, x2, x3] (.int w :: .int v :: st) M P = zk_R sc d 217 241 [x0, x1, x2, x3] (.int (v + w) :: st) M P := zk_R_nx um217 (rfl : zk_lk zm_217.2.2.2.2.2 240 = some (.iadd)) rfl
set_option maxRecDepth 20000 in
theorem u217_242 {x1 x2 x3 : Option Value} {v : Nat} : zk_R sc d 217 242 [some (.ref v), x1, x2, x3] st M P = zk_R sc d 217 243 [some (.ref v), x1, x2, x3] (.ref v :: st) M P := zk_R_nx um217 (rfl : zk_lk zm_217.2.2.2.2.2 242 = some (.aload_n 0)) rfl
set_option maxRecDepth 20000 in
theorem u217_243 {x0 x1 x2 : Option Value} {v : Int32} : zk_R sc d 217 243 [x0, x1, x2, some (.int v)] st M P = zk_R sc d 217 244 [x0, x1, x2, some (.int v)] (.int v :: st) M P := zk_R_nx um217 (rfl : zk_lk zm_217.2.2.2.2.2 243 = some (.iload_n 3)) rfl
set_option maxRecDepth 20000 in
theorem u217_244 {x0 x1 x2 x3 : Option Value} : zk_R sc d 217 244 [x0, x1, x2, x3] st M P = zk_R sc d 217 245 [x0, x1, x2, x3] (.int 3 :: st) M P := zr_iconst um217 (rfl : zk_lk zm_217.2.2.2.2.2 244 = some (.iconst 3)) (by decide)
set_option maxRecDepth 20000 in
theorem u217_245 {x0 x1 x2 x3 : Option Value} {v w : Int32} : zk_R sc d 217 245 [x0, x1, x2, x3] (.int w :: .int v :: st) M P = zk_R sc d 217 246 [x0, x1, x2, x3] (.int (v + w) :: st) M P := zk_R_nx um217 (rfl : zk_lk zm_217.2.2.2.2.2 245 = some (.iadd)) rfl
set_option maxRecDepth 20000 in
theorem u217_247 {x1 x2 x3 : Option Value} {v : Nat} : zk_R sc d 217 247 [some (.ref v), x1, x2, x3] st M P = zk_R sc d 217 248 [some (.ref v), x1, x2, x3] (.ref v :: st) M P := zk_R_nx um217 (rfl : zk_lk zm_217.2.2.2.2.2 247 = some (.aload_n 0)) rfl
set_option maxRecDepth 20000 in
theorem u217_248 {x0 x1 x2 : Option Value} {v : Int32} : zk_R sc d 217 248 [x0, x1, x2, some (.int v)] st M P = zk_R sc d 217 249 [x0, x1, x2, some (.int v)] (.int v :: st) M P := zk_R_nx um217 (rfl : zk_lk zm_217.2.2.2.2.2 248 = some (.iload_n 3)) rfl
set_option maxRecDepth 20000 in
theorem u217_249 {x0 x1 x2 x3 : Option Value} : zk_R sc d 217 249 [x0, x1, x2, x3] st M P = zk_R sc d 217 250 [x0, x1, x2, x3] (.int 4 :: st) M P := zr_iconst um217 (rfl : zk_lk zm_217.2.2.2.2.2 249 = some (.iconst 4)) (by decide)
set_option maxRecDepth 20000 in
theorem u217_250 {x0 x1 x2 x3 : Option Value} {v w : Int32} : zk_R sc d 217 250 [x0, x1, x2, x3] (.int w :: .int v :: st) M P = zk_R sc d 217 251 [x0, x1, x2, x3] (.int (v + w) :: st) M P := zk_R_nx um217 (rfl : zk_lk zm_217.2.2.2.2.2 250 = some (.iadd)) rfl
set_option maxRecDepth 20000 in
theorem u217_252 {x1 x2 x3 : Option Value} {v : Nat} : zk_R sc d 217 252 [some (.ref v), x1, x2, x3] st M P = zk_R sc d 217 253 [some (.ref v), x1, x2, x3] (.ref v :: st) M P := zk_R_nx um217 (rfl : zk_lk zm_217.2.2.2.2.2 252 = some (.aload_n 0)) rfl
set_option maxRecDepth 20000 in
theorem u217_253 {x0 x1 x2 : Option Value} {v : Int32} : zk_R sc d 217 253 [x0, x1, x2, some (.int v)] st M P = zk_R sc d 217 254 [x0, x1, x2, some (.int v)] (.int v :: st) M P := zk_R_nx um217 (rfl : zk_lk zm_217.2.2.2.2.2 253 = some (.iload_n 3)) rfl
set_option maxRecDepth 20000 in
theorem u217_254 {x0 x1 x2 x3 : Option Value} : zk_R sc d 217 254 [x0, x1, x2, x3] st M P = zk_R sc d 217 255 [x0, x1, x2, x3] (.int 5 :: st) M P := zr_iconst um217 (rfl : zk_lk zm_217.2.2.2.2.2 254 = some (.iconst 5)) (by decide)
set_option maxRecDepth 20000 in
theorem u217_255 {x0 x1 x2 x3 : Option Value} {v w : Int32} : zk_R sc d 217 255 [x0, x1, x2, x3] (.int w :: .int v :: st) M P = zk_R sc d 217 256 [x0, x1, x2, x3] (.int (v + w) :: st) M P := zk_R_nx um217 (rfl : zk_lk zm_217.2.2.2.2.2 255 = some (.iadd)) rfl
set_option maxRecDepth 20000 in
theorem u217_257 {x1 x2 x3 : Option Value} {v : Nat} : zk_R sc d 217 257 [some (.ref v), x1, x2, x3] st M P = zk_R sc d 217 258 [some (.ref v), x1, x2, x3] (.ref v :: st) M P := zk_R_nx um217 (rfl : zk_lk zm_217.2.2.2.2.2 257 = some (.aload_n 0)) rfl
set_option maxRecDepth 20000 in
theorem u217_258 {x0 x1 x2 : Option Value} {v : Int32} : zk_R sc d 217 258 [x0, x1, x2, some (.int v)] st M P = zk_R sc d 217 259 [x0, x1, x2, some (.int v)] (.int v :: st) M P := zk_R_nx um217 (rfl : zk_lk zm_217.2.2.2.2.2 258 = some (.iload_n 3)) rfl
set_option maxRecDepth 20000 in
theorem u217_259 {x0 x1 x2 x3 : Option Value} : zk_R sc d 217 259 [x0, x1, x2, x3] st M P = zk_R sc d 217 261 [x0, x1, x2, x3] (.int 6 :: st) M P := zr_bipush um217 (rfl : zk_lk zm_217.2.2.2.2.2 259 = some (.bipush 6)) (by decide)
set_option maxRecDepth 20000 in
theorem u217_261 {x0 x1 x2 x3 : Option Value} {v w : Int32} : zk_R sc d 217 261 [x0, x1, x2, x3] (.int w :: .int v :: st) M P = zk_R sc d 217 262 [x0, x1, x2, x3] (.int (v + w) :: st) M P := zk_R_nx um217 (rfl : zk_lk zm_217.2.2.2.2.2 261 = some (.iadd)) rfl
set_option maxRecDepth 20000 in
theorem u217_263 {x0 x1 x2 x3 : Option Value} {a0 : Nat} {a1 : Int32} {a2 : Int32} {a3 : Int32} {a4 : Int32} {a5 : Int32} {a6 : Int32} (h1 : a0 < M.1) (h2 : (zk_sh a0).1 = 0) (h3 : (zk_sh a0).2.1 = 0) : zk_R sc (d + 1) 217 263 [x0, x1, x2, x3] [.int a6, .int a5, .int a4, .int a3, .int a2, .int a1, .ref a0] M P = zk_R sc d 2 0 [some (.ref a0), some (.int a1), some (.int a2), some (.int a3), some (.int a4), some (.int a5), some (.int a6), none, none] [] M (fun r M' => zk_R sc (d + 1) 217 266 [x0, x1, x2, x3] (r.toList ++ []) M' P) := zr_iv (as := [.int a1, .int a2, .int a3, .int a4, .int a5, .int a6]) (rest := []) um217 (rfl : zk_lk zm_217.2.2.2.2.2 263 = some (.invokevirtual 18)) rfl (rfl : zk_mt 2 = some zm_2) rfl rfl rfl rfl rfl h1 h2 h3
set_option maxRecDepth 20000 in
theorem u217_266 {x0 x1 x3 : Option Value} {v : Nat} : zk_R sc d 217 266 [x0, x1, some (.ref v), x3] st M P = zk_R sc d 217 267 [x0, x1, some (.ref v), x3] (.ref v :: st) M P := zk_R_nx um217 (rfl : zk_lk zm_217.2.2.2.2.2 266 = some (.aload_n 2)) rfl
set_option maxRecDepth 20000 in
theorem u217_267 {x1 x2 x3 : Option Value} {v : Nat} : zk_R sc d 217 267 [some (.ref v), x1, x2, x3] st M P = zk_R sc d 217 268 [some (.ref v), x1, x2, x3] (.ref v :: st) M P := zk_R_nx um217 (rfl : zk_lk zm_217.2.2.2.2.2 267 = some (.aload_n 0)) rfl
set_option maxRecDepth 20000 in
theorem u217_268 {x0 x1 x2 : Option Value} {v : Int32} : zk_R sc d 217 268 [x0, x1, x2, some (.int v)] st M P = zk_R sc d 217 269 [x0, x1, x2, some (.int v)] (.int v :: st) M P := zk_R_nx um217 (rfl : zk_lk zm_217.2.2.2.2.2 268 = some (.iload_n 3)) rfl
set_option maxRecDepth 20000 in
theorem u217_269 {x0 x1 x2 x3 : Option Value} : zk_R sc d 217 269 [x0, x1, x2, x3] st M P = zk_R sc d 217 270 [x0, x1, x2, x3] (.int 1 :: st) M P := zr_iconst um217 (rfl : zk_lk zm_217.2.2.2.2.2 269 = some (.iconst 1)) (by decide)
set_option maxRecDepth 20000 in
theorem u217_270 {x0 x1 x2 x3 : Option Value} {v w : Int32} : zk_R sc d 217 270 [x0, x1, x2, x3] (.int w :: .int v :: st) M P = zk_R sc d 217 271 [x0, x1, x2, x3] (.int (v + w) :: st) M P := zk_R_nx um217 (rfl : zk_lk zm_217.2.2.2.2.2 270 = some (.iadd)) rfl
set_option maxRecDepth 20000 in
theorem u217_272 {x1 x2 x3 : Option Value} {v : Nat} : zk_R sc d 217 272 [some (.ref v), x1, x2, x3] st M P = zk_R sc d 217 273 [some (.ref v), x1, x2, x3] (.ref v :: st) M P := zk_R_nx um217 (rfl : zk_lk zm_217.2.2.2.2.2 272 = some (.aload_n 0)) rfl
set_option maxRecDepth 20000 in
theorem u217_273 {x0 x1 x2 : Option Value} {v : Int32} : zk_R sc d 217 273 [x0, x1, x2, some (.int v)] st M P = zk_R sc d 217 274 [x0, x1, x2, some (.int v)] (.int v :: st) M P := zk_R_nx um217 (rfl : zk_lk zm_217.2.2.2.2.2 273 = some (.iload_n 3)) rfl
set_option maxRecDepth 20000 in
theorem u217_274 {x0 x1 x2 x3 : Option Value} : zk_R sc d 217 274 [x0, x1, x2, x3] st M P = zk_R sc d 217 275 [x0, x1, x2, x3] (.int 2 :: st) M P := zr_iconst um217 (rfl : zk_lk zm_217.2.2.2.2.2 274 = some (.iconst 2)) (by decide)
set_option maxRecDepth 20000 in
theorem u217_275 {x0 x1 x2 x3 : Option Value} {v w : Int32} : zk_R sc d 217 275 [x0, x1, x2, x3] (.int w :: .int v :: st) M P = zk_R sc d 217 276 [x0, x1, x2, x3] (.int (v + w) :: st) M P := zk_R_nx um217 (rfl : zk_lk zm_217.2.2.2.2.2 275 = some (.iadd)) rfl
set_option maxRecDepth 20000 in
theorem u217_277 {x1 x2 x3 : Option Value} {v : Nat} : zk_R sc d 217 277 [some (.ref v), x1, x2, x3] st M P = zk_R sc d 217 278 [some (.ref v), x1, x2, x3] (.ref v :: st) M P := zk_R_nx um217 (rfl : zk_lk zm_217.2.2.2.2.2 277 = some (.aload_n 0)) rfl
set_option maxRecDepth 20000 in
theorem u217_278 {x0 x1 x2 : Option Value} {v : Int32} : zk_R sc d 217 278 [x0, x1, x2, some (.int v)] st M P = zk_R sc d 217 279 [x0, x1, x2, some (.int v)] (.int v :: st) M P := zk_R_nx um217 (rfl : zk_lk zm_217.2.2.2.2.2 278 = some (.iload_n 3)) rfl
set_option maxRecDepth 20000 in
theorem u217_279 {x0 x1 x2 x3 : Option Value} : zk_R sc d 217 279 [x0, x1, x2, x3] st M P = zk_R sc d 217 280 [x0, x1, x2, x3] (.int 3 :: st) M P := zr_iconst um217 (rfl : zk_lk zm_217.2.2.2.2.2 279 = some (.iconst 3)) (by decide)
set_option maxRecDepth 20000 in
theorem u217_280 {x0 x1 x2 x3 : Option Value} {v w : Int32} : zk_R sc d 217 280 [x0, x1, x2, x3] (.int w :: .int v :: st) M P = zk_R sc d 217 281 [x0, x1, x2, x3] (.int (v + w) :: st) M P := zk_R_nx um217 (rfl : zk_lk zm_217.2.2.2.2.2 280 = some (.iadd)) rfl
set_option maxRecDepth 20000 in
theorem u217_282 {x1 x2 x3 : Option Value} {v : Nat} : zk_R sc d 217 282 [some (.ref v), x1, x2, x3] st M P = zk_R sc d 217 283 [some (.ref v), x1, x2, x3] (.ref v :: st) M P := zk_R_nx um217 (rfl : zk_lk zm_217.2.2.2.2.2 282 = some (.aload_n 0)) rfl
set_option maxRecDepth 20000 in
theorem u217_283 {x0 x1 x2 : Option Value} {v : Int32} : zk_R sc d 217 283 [x0, x1, x2, some (.int v)] st M P = zk_R sc d 217 284 [x0, x1, x2, some (.int v)] (.int v :: st) M P := zk_R_nx um217 (rfl : zk_lk zm_217.2.2.2.2.2 283 = some (.iload_n 3)) rfl
set_option maxRecDepth 20000 in
theorem u217_284 {x0 x1 x2 x3 : Option Value} : zk_R sc d 217 284 [x0, x1, x2, x3] st M P = zk_R sc d 217 285 [x0, x1, x2, x3] (.int 4 :: st) M P := zr_iconst um217 (rfl : zk_lk zm_217.2.2.2.2.2 284 = some (.iconst 4)) (by decide)
set_option maxRecDepth 20000 in
theorem u217_285 {x0 x1 x2 x3 : Option Value} {v w : Int32} : zk_R sc d 217 285 [x0, x1, x2, x3] (.int w :: .int v :: st) M P = zk_R sc d 217 286 [x0, x1, x2, x3] (.int (v + w) :: st) M P := zk_R_nx um217 (rfl : zk_lk zm_217.2.2.2.2.2 285 = some (.iadd)) rfl
set_option maxRecDepth 20000 in
theorem u217_287 {x1 x2 x3 : Option Value} {v : Nat} : zk_R sc d 217 287 [some (.ref v), x1, x2, x3] st M P = zk_R sc d 217 288 [some (.ref v), x1, x2, x3] (.ref v :: st) M P := zk_R_nx um217 (rfl : zk_lk zm_217.2.2.2.2.2 287 = some (.aload_n 0)) rfl
set_option maxRecDepth 20000 in
theorem u217_288 {x0 x1 x2 : Option Value} {v : Int32} : zk_R sc d 217 288 [x0, x1, x2, some (.int v)] st M P = zk_R sc d 217 289 [x0, x1, x2, some (.int v)] (.int v :: st) M P := zk_R_nx um217 (rfl : zk_lk zm_217.2.2.2.2.2 288 = some (.iload_n 3)) rfl
set_option maxRecDepth 20000 in
theorem u217_289 {x0 x1 x2 x3 : Option Value} : zk_R sc d 217 289 [x0, x1, x2, x3] st M P = zk_R sc d 217 290 [x0, x1, x2, x3] (.int 5 :: st) M P := zr_iconst um217 (rfl : zk_lk zm_217.2.2.2.2.2 289 = some (.iconst 5)) (by decide)
set_option maxRecDepth 20000 in
theorem u217_290 {x0 x1 x2 x3 : Option Value} {v w : Int32} : zk_R sc d 217 290 [x0, x1, x2, x3] (.int w :: .int v :: st) M P = zk_R sc d 217 291 [x0, x1, x2, x3] (.int (v + w) :: st) M P := zk_R_nx um217 (rfl : zk_lk zm_217.2.2.2.2.2 290 = some (.iadd)) rfl
set_option maxRecDepth 20000 in
theorem u217_292 {x1 x2 x3 : Option Value} {v : Nat} : zk_R sc d 217 292 [some (.ref v), x1, x2, x3] st M P = zk_R sc d 217 293 [some (.ref v), x1, x2, x3] (.ref v :: st) M P := zk_R_nx um217 (rfl : zk_lk zm_217.2.2.2.2.2 292 = some (.aload_n 0)) rfl
set_option maxRecDepth 20000 in
theorem u217_293 {x0 x1 x2 : Option Value} {v : Int32} : zk_R sc d 217 293 [x0, x1, x2, some (.int v)] st M P = zk_R sc d 217 294 [x0, x1, x2, some (.int v)] (.int v :: st) M P := zk_R_nx um217 (rfl : zk_lk zm_217.2.2.2.2.2 293 = some (.iload_n 3)) rfl
set_option maxRecDepth 20000 in
theorem u217_294 {x0 x1 x2 x3 : Option Value} : zk_R sc d 217 294 [x0, x1, x2, x3] st M P = zk_R sc d 217 296 [x0, x1, x2, x3] (.int 6 :: st) M P := zr_bipush um217 (rfl : zk_lk zm_217.2.2.2.2.2 294 = some (.bipush 6)) (by decide)
set_option maxRecDepth 20000 in
theorem u217_296 {x0 x1 x2 x3 : Option Value} {v w : Int32} : zk_R sc d 217 296 [x0, x1, x2, x3] (.int w :: .int v :: st) M P = zk_R sc d 217 297 [x0, x1, x2, x3] (.int (v + w) :: st) M P := zk_R_nx um217 (rfl : zk_lk zm_217.2.2.2.2.2 296 = some (.iadd)) rfl
set_option maxRecDepth 20000 in
theorem u217_298 {x0 x1 x2 x3 : Option Value} {a0 : Nat} {a1 : Int32} {a2 : Int32} {a3 : Int32} {a4 : Int32} {a5 : Int32} {a6 : Int32} {r0 : Int32} (h1 : a0 < M.1) (h2 : (zk_sh a0).1 = 0) (h3 : (zk_sh a0).2.1 = 6) : zk_R sc (d + 1) 217 298 [x0, x1, x2, x3] [.int a6, .int a5, .int a4, .int a3, .int a2, .int a1, .ref a0, .int r0] M P = zk_R sc d 141 0 [some (.ref a0), some (.int a1), some (.int a2), some (.int a3), some (.int a4), some (.int a5), some (.int a6), none] [] M (fun r M' => zk_R sc (d + 1) 217 301 [x0, x1, x2, x3] (r.toList ++ [.int r0]) M' P) := zr_iv (as := [.int a1, .int a2, .int a3, .int a4, .int a5, .int a6]) (rest := [.int r0]) um217 (rfl : zk_lk zm_217.2.2.2.2.2 298 = some (.invokevirtual 22)) rfl (rfl : zk_mt 141 = some zm_141) rfl rfl rfl rfl rfl h1 h2 h3
set_option maxRecDepth 20000 in
theorem u217_301 {x0 x1 x2 x3 : Option Value} {x y : Int32} : zk_R sc d 217 301 [x0, x1, x2, x3] (.int y :: .int x :: st) M P = if x = y then zk_R sc d 217 1412 [x0, x1, x2, x3] st M P else zk_R sc d 217 304 [x0, x1, x2, x3] st M P := zr_ic_eq um217 (rfl : zk_lk zm_217.2.2.2.2.2 301 = some (.if_icmp .eq (1111))) (by decide)
set_option maxRecDepth 20000 in
theorem u217_304 {x0 x1 x2 x3 : Option Value} : zk_R sc d 217 304 [x0, x1, x2, x3] st M P = zk_R sc d 217 305 [x0, x1, x2, x3] (.int 0 :: st) M P := zr_iconst um217 (rfl : zk_lk zm_217.2.2.2.2.2 304 = some (.iconst 0)) (by decide)
set_option maxRecDepth 20000 in
theorem u217_305 {x0 x1 x2 x3 : Option Value} {v : Int32} : zk_R sc d 217 305 [x0, x1, x2, x3] [.int v] M P = ((v = 0 ∨ v = 1) ∧ P (some (.int v)) M) := zr_retb um217 (rfl : zk_lk zm_217.2.2.2.2.2 305 = some (.ireturn)) rfl
set_option maxRecDepth 20000 in
theorem u217_306 {x0 x2 x3 : Option Value} {v : Nat} : zk_R sc d 217 306 [x0, some (.ref v), x2, x3] st M P = zk_R sc d 217 307 [x0, some (.ref v), x2, x3] (.ref v :: st) M P := zk_R_nx um217 (rfl : zk_lk zm_217.2.2.2.2.2 306 = some (.aload_n 1)) rfl
set_option maxRecDepth 20000 in
theorem u217_307 {x0 x1 x2 x3 : Option Value} {a0 : Nat} (h1 : a0 < M.1) (h2 : (zk_sh a0).1 = 0) (h3 : (zk_sh a0).2.1 = 0) : zk_R sc (d + 1) 217 307 [x0, x1, x2, x3] [.ref a0] M P = zk_R sc d 4 0 [some (.ref a0), none] [] M (fun r M' => zk_R sc (d + 1) 217 310 [x0, x1, x2, x3] (r.toList ++ []) M' P) := zr_iv (as := []) (rest := []) um217 (rfl : zk_lk zm_217.2.2.2.2.2 307 = some (.invokevirtual 23)) rfl (rfl : zk_mt 4 = some zm_4) rfl rfl rfl rfl rfl h1 h2 h3
set_option maxRecDepth 20000 in
theorem u217_310 {x0 x1 x3 : Option Value} {v : Nat} : zk_R sc d 217 310 [x0, x1, some (.ref v), x3] st M P = zk_R sc d 217 311 [x0, x1, some (.ref v), x3] (.ref v :: st) M P := zk_R_nx um217 (rfl : zk_lk zm_217.2.2.2.2.2 310 = some (.aload_n 2)) rfl
set_option maxRecDepth 20000 in
theorem u217_311 {x0 x1 x2 x3 : Option Value} {a0 : Nat} {r0 : Int32} (h1 : a0 < M.1) (h2 : (zk_sh a0).1 = 0) (h3 : (zk_sh a0).2.1 = 6) : zk_R sc (d + 1) 217 311 [x0, x1, x2, x3] [.ref a0, .int r0] M P = zk_R sc d 127 0 [some (.ref a0), none, none] [] M (fun r M' => zk_R sc (d + 1) 217 314 [x0, x1, x2, x3] (r.toList ++ [.int r0]) M' P) := zr_iv (as := []) (rest := [.int r0]) um217 (rfl : zk_lk zm_217.2.2.2.2.2 311 = some (.invokevirtual 27)) rfl (rfl : zk_mt 127 = some zm_127) rfl rfl rfl rfl rfl h1 h2 h3
set_option maxRecDepth 20000 in
theorem u217_314 {x0 x1 x2 x3 : Option Value} {x y : Int32} : zk_R sc d 217 314 [x0, x1, x2, x3] (.int y :: .int x :: st) M P = if x = y then zk_R sc d 217 1412 [x0, x1, x2, x3] st M P else zk_R sc d 217 317 [x0, x1, x2, x3] st M P := zr_ic_eq um217 (rfl : zk_lk zm_217.2.2.2.2.2 314 = some (.if_icmp .eq (1098))) (by decide)
set_option maxRecDepth 20000 in
theorem u217_317 {x0 x1 x2 x3 : Option Value} : zk_R sc d 217 317 [x0, x1, x2, x3] st M P = zk_R sc d 217 318 [x0, x1, x2, x3] (.int 0 :: st) M P := zr_iconst um217 (rfl : zk_lk zm_217.2.2.2.2.2 317 = some (.iconst 0)) (by decide)
set_option maxRecDepth 20000 in
theorem u217_318 {x0 x1 x2 x3 : Option Value} {v : Int32} : zk_R sc d 217 318 [x0, x1, x2, x3] [.int v] M P = ((v = 0 ∨ v = 1) ∧ P (some (.int v)) M) := zr_retb um217 (rfl : zk_lk zm_217.2.2.2.2.2 318 = some (.ireturn)) rfl
set_option maxRecDepth 20000 in
theorem u217_319 {x0 x2 x3 : Option Value} {v : Nat} : zk_R sc d 217 319 [x0, some (.ref v), x2, x3] st M P = zk_R sc d 217 320 [x0, some (.ref v), x2, x3] (.ref v :: st) M P := zk_R_nx um217 (rfl : zk_lk zm_217.2.2.2.2.2 319 = some (.aload_n 1)) rfl
set_option maxRecDepth 20000 in
theorem u217_320 {x1 x2 x3 : Option Value} {v : Nat} : zk_R sc d 217 320 [some (.ref v), x1, x2, x3] st M P = zk_R sc d 217 321 [some (.ref v), x1, x2, x3] (.ref v :: st) M P := zk_R_nx um217 (rfl : zk_lk zm_217.2.2.2.2.2 320 = some (.aload_n 0)) rfl
set_option maxRecDepth 20000 in
theorem u217_321 {x0 x1 x2 : Option Value} {v : Int32} : zk_R sc d 217 321 [x0, x1, x2, some (.int v)] st M P = zk_R sc d 217 322 [x0, x1, x2, some (.int v)] (.int v :: st) M P := zk_R_nx um217 (rfl : zk_lk zm_217.2.2.2.2.2 321 = some (.iload_n 3)) rfl
set_option maxRecDepth 20000 in
theorem u217_322 {x0 x1 x2 x3 : Option Value} : zk_R sc d 217 322 [x0, x1, x2, x3] st M P = zk_R sc d 217 323 [x0, x1, x2, x3] (.int 1 :: st) M P := zr_iconst um217 (rfl : zk_lk zm_217.2.2.2.2.2 322 = some (.iconst 1)) (by decide)
set_option maxRecDepth 20000 in
theorem u217_323 {x0 x1 x2 x3 : Option Value} {v w : Int32} : zk_R sc d 217 323 [x0, x1, x2, x3] (.int w :: .int v :: st) M P = zk_R sc d 217 324 [x0, x1, x2, x3] (.int (v + w) :: st) M P := zk_R_nx um217 (rfl : zk_lk zm_217.2.2.2.2.2 323 = some (.iadd)) rfl
set_option maxRecDepth 20000 in
theorem u217_325 {x0 x1 x2 x3 : Option Value} {a0 : Nat} {a1 : Int32} (h1 : a0 < M.1) (h2 : (zk_sh a0).1 = 0) (h3 : (zk_sh a0).2.1 = 0) : zk_R sc (d + 1) 217 325 [x0, x1, x2, x3] [.int a1, .ref a0] M P = zk_R sc d 5 0 [some (.ref a0), some (.int a1), none] [] M (fun r M' => zk_R sc (d + 1) 217 328 [x0, x1, x2, x3] (r.toList ++ []) M' P) := zr_iv (as := [.int a1]) (rest := []) um217 (rfl : zk_lk zm_217.2.2.2.2.2 325 = some (.invokevirtual 28)) rfl (rfl : zk_mt 5 = some zm_5) rfl rfl rfl rfl rfl h1 h2 h3
set_option maxRecDepth 20000 in
theorem u217_328 {x0 x1 x3 : Option Value} {v : Nat} : zk_R sc d 217 328 [x0, x1, some (.ref v), x3] st M P = zk_R sc d 217 329 [x0, x1, some (.ref v), x3] (.ref v :: st) M P := zk_R_nx um217 (rfl : zk_lk zm_217.2.2.2.2.2 328 = some (.aload_n 2)) rfl
set_option maxRecDepth 20000 in
theorem u217_329 {x1 x2 x3 : Option Value} {v : Nat} : zk_R sc d 217 329 [some (.ref v), x1, x2, x3] st M P = zk_R sc d 217 330 [some (.ref v), x1, x2, x3] (.ref v :: st) M P := zk_R_nx um217 (rfl : zk_lk zm_217.2.2.2.2.2 329 = some (.aload_n 0)) rfl
set_option maxRecDepth 20000 in
theorem u217_330 {x0 x1 x2 : Option Value} {v : Int32} : zk_R sc d 217 330 [x0, x1, x2, some (.int v)] st M P = zk_R sc d 217 331 [x0, x1, x2, some (.int v)] (.int v :: st) M P := zk_R_nx um217 (rfl : zk_lk zm_217.2.2.2.2.2 330 = some (.iload_n 3)) rfl
set_option maxRecDepth 20000 in
theorem u217_331 {x0 x1 x2 x3 : Option Value} : zk_R sc d 217 331 [x0, x1, x2, x3] st M P = zk_R sc d 217 332 [x0, x1, x2, x3] (.int 1 :: st) M P := zr_iconst um217 (rfl : zk_lk zm_217.2.2.2.2.2 331 = some (.iconst 1)) (by decide)
set_option maxRecDepth 20000 in
theorem u217_332 {x0 x1 x2 x3 : Option Value} {v w : Int32} : zk_R sc d 217 332 [x0, x1, x2, x3] (.int w :: .int v :: st) M P = zk_R sc d 217 333 [x0, x1, x2, x3] (.int (v + w) :: st) M P := zk_R_nx um217 (rfl : zk_lk zm_217.2.2.2.2.2 332 = some (.iadd)) rfl
set_option maxRecDepth 20000 in
theorem u217_334 {x0 x1 x2 x3 : Option Value} {a0 : Nat} {a1 : Int32} {r0 : Int32} (h1 : a0 < M.1) (h2 : (zk_sh a0).1 = 0) (h3 : (zk_sh a0).2.1 = 6) : zk_R sc (d + 1) 217 334 [x0, x1, x2, x3] [.int a1, .ref a0, .int r0] M P = zk_R sc d 143 0 [some (.ref a0), some (.int a1), none] [] M (fun r M' => zk_R sc (d + 1) 217 337 [x0, x1, x2, x3] (r.toList ++ [.int r0]) M' P) := zr_iv (as := [.int a1]) (rest := [.int r0]) um217 (rfl : zk_lk zm_217.2.2.2.2.2 334 = some (.invokevirtual 31)) rfl (rfl : zk_mt 143 = some zm_143) rfl rfl rfl rfl rfl h1 h2 h3
set_option maxRecDepth 20000 in
theorem u217_337 {x0 x1 x2 x3 : Option Value} {x y : Int32} : zk_R sc d 217 337 [x0, x1, x2, x3] (.int y :: .int x :: st) M P = if x = y then zk_R sc d 217 1412 [x0, x1, x2, x3] st M P else zk_R sc d 217 340 [x0, x1, x2, x3] st M P := zr_ic_eq um217 (rfl : zk_lk zm_217.2.2.2.2.2 337 = some (.if_icmp .eq (1075))) (by decide)
set_option maxRecDepth 20000 in
theorem u217_340 {x0 x1 x2 x3 : Option Value} : zk_R sc d 217 340 [x0, x1, x2, x3] st M P = zk_R sc d 217 341 [x0, x1, x2, x3] (.int 0 :: st) M P := zr_iconst um217 (rfl : zk_lk zm_217.2.2.2.2.2 340 = some (.iconst 0)) (by decide)
set_option maxRecDepth 20000 in
theorem u217_341 {x0 x1 x2 x3 : Option Value} {v : Int32} : zk_R sc d 217 341 [x0, x1, x2, x3] [.int v] M P = ((v = 0 ∨ v = 1) ∧ P (some (.int v)) M) := zr_retb um217 (rfl : zk_lk zm_217.2.2.2.2.2 341 = some (.ireturn)) rfl
set_option maxRecDepth 20000 in
theorem u217_342 {x0 x2 x3 : Option Value} {v : Nat} : zk_R sc d 217 342 [x0, some (.ref v), x2, x3] st M P = zk_R sc d 217 343 [x0, some (.ref v), x2, x3] (.ref v :: st) M P := zk_R_nx um217 (rfl : zk_lk zm_217.2.2.2.2.2 342 = some (.aload_n 1)) rfl
set_option maxRecDepth 20000 in
theorem u217_343 {x1 x2 x3 : Option Value} {v : Nat} : zk_R sc d 217 343 [some (.ref v), x1, x2, x3] st M P = zk_R sc d 217 344 [some (.ref v), x1, x2, x3] (.ref v :: st) M P := zk_R_nx um217 (rfl : zk_lk zm_217.2.2.2.2.2 343 = some (.aload_n 0)) rfl
set_option maxRecDepth 20000 in
theorem u217_344 {x0 x1 x2 : Option Value} {v : Int32} : zk_R sc d 217 344 [x0, x1, x2, some (.int v)] st M P = zk_R sc d 217 345 [x0, x1, x2, some (.int v)] (.int v :: st) M P := zk_R_nx um217 (rfl : zk_lk zm_217.2.2.2.2.2 344 = some (.iload_n 3)) rfl
set_option maxRecDepth 20000 in
theorem u217_345 {x0 x1 x2 x3 : Option Value} : zk_R sc d 217 345 [x0, x1, x2, x3] st M P = zk_R sc d 217 346 [x0, x1, x2, x3] (.int 1 :: st) M P := zr_iconst um217 (rfl : zk_lk zm_217.2.2.2.2.2 345 = some (.iconst 1)) (by decide)
set_option maxRecDepth 20000 in
theorem u217_346 {x0 x1 x2 x3 : Option Value} {v w : Int32} : zk_R sc d 217 346 [x0, x1, x2, x3] (.int w :: .int v :: st) M P = zk_R sc d 217 347 [x0, x1, x2, x3] (.int (v + w) :: st) M P := zk_R_nx um217 (rfl : zk_lk zm_217.2.2.2.2.2 346 = some (.iadd)) rfl
set_option maxRecDepth 20000 in
theorem u217_348 {x1 x2 x3 : Option Value} {v : Nat} : zk_R sc d 217 348 [some (.ref v), x1, x2, x3] st M P = zk_R sc d 217 349 [some (.ref v), x1, x2, x3] (.ref v :: st) M P := zk_R_nx um217 (rfl : zk_lk zm_217.2.2.2.2.2 348 = some (.aload_n 0)) rfl
set_option maxRecDepth 20000 in
theorem u217_349 {x0 x1 x2 : Option Value} {v : Int32} : zk_R sc d 217 349 [x0, x1, x2, some (.int v)] st M P = zk_R sc d 217 350 [x0, x1, x2, some (.int v)] (.int v :: st) M P := zk_R_nx um217 (rfl : zk_lk zm_217.2.2.2.2.2 349 = some (.iload_n 3)) rfl
set_option maxRecDepth 20000 in
theorem u217_350 {x0 x1 x2 x3 : Option Value} : zk_R sc d 217 350 [x0, x1, x2, x3] st M P = zk_R sc d 217 351 [x0, x1, x2, x3] (.int 2 :: st) M P := zr_iconst um217 (rfl : zk_lk zm_217.2.2.2.2.2 350 = some (.iconst 2)) (by decide)
set_option maxRecDepth 20000 in
theorem u217_351 {x0 x1 x2 x3 : Option Value} {v w : Int32} : zk_R sc d 217 351 [x0, x1, x2, x3] (.int w :: .int v :: st) M P = zk_R sc d 217 352 [x0, x1, x2, x3] (.int (v + w) :: st) M P := zk_R_nx um217 (rfl : zk_lk zm_217.2.2.2.2.2 351 = some (.iadd)) rfl
set_option maxRecDepth 20000 in
theorem u217_353 {x1 x2 x3 : Option Value} {v : Nat} : zk_R sc d 217 353 [some (.ref v), x1, x2, x3] st M P = zk_R sc d 217 354 [some (.ref v), x1, x2, x3] (.ref v :: st) M P := zk_R_nx um217 (rfl : zk_lk zm_217.2.2.2.2.2 353 = some (.aload_n 0)) rfl
set_option maxRecDepth 20000 in
theorem u217_354 {x0 x1 x2 : Option Value} {v : Int32} : zk_R sc d 217 354 [x0, x1, x2, some (.int v)] st M P = zk_R sc d 217 355 [x0, x1, x2, some (.int v)] (.int v :: st) M P := zk_R_nx um217 (rfl : zk_lk zm_217.2.2.2.2.2 354 = some (.iload_n 3)) rfl
set_option maxRecDepth 20000 in
theorem u217_355 {x0 x1 x2 x3 : Option Value} : zk_R sc d 217 355 [x0, x1, x2, x3] st M P = zk_R sc d 217 356 [x0, x1, x2, x3] (.int 3 :: st) M P := zr_iconst um217 (rfl : zk_lk zm_217.2.2.2.2.2 355 = some (.iconst 3)) (by decide)
set_option maxRecDepth 20000 in
theorem u217_356 {x0 x1 x2 x3 : Option Value} {v w : Int32} : zk_R sc d 217 356 [x0, x1, x2, x3] (.int w :: .int v :: st) M P = zk_R sc d 217 357 [x0, x1, x2, x3] (.int (v + w) :: st) M P := zk_R_nx um217 (rfl : zk_lk zm_217.2.2.2.2.2 356 = some (.iadd)) rfl
set_option maxRecDepth 20000 in
theorem u217_358 {x0 x1 x2 x3 : Option Value} {a0 : Nat} {a1 : Int32} {a2 : Int32} {a3 : Int32} (h1 : a0 < M.1) (h2 : (zk_sh a0).1 = 0) (h3 : (zk_sh a0).2.1 = 0) : zk_R sc (d + 1) 217 358 [x0, x1, x2, x3] [.int a3, .int a2, .int a1, .ref a0] M P = zk_R sc d 6 0 [some (.ref a0), some (.int a1), some (.int a2), some (.int a3)] [] M (fun r M' => zk_R sc (d + 1) 217 361 [x0, x1, x2, x3] (r.toList ++ []) M' P) := zr_iv (as := [.int a1, .int a2, .int a3]) (rest := []) um217 (rfl : zk_lk zm_217.2.2.2.2.2 358 = some (.invokevirtual 32)) rfl (rfl : zk_mt 6 = some zm_6) rfl rfl rfl rfl rfl h1 h2 h3
set_option maxRecDepth 20000 in
theorem u217_361 {x0 x1 x3 : Option Value} {v : Nat} : zk_R sc d 217 361 [x0, x1, some (.ref v), x3] st M P = zk_R sc d 217 362 [x0, x1, some (.ref v), x3] (.ref v :: st) M P := zk_R_nx um217 (rfl : zk_lk zm_217.2.2.2.2.2 361 = some (.aload_n 2)) rfl
set_option maxRecDepth 20000 in
theorem u217_362 {x1 x2 x3 : Option Value} {v : Nat} : zk_R sc d 217 362 [some (.ref v), x1, x2, x3] st M P = zk_R sc d 217 363 [some (.ref v), x1, x2, x3] (.ref v :: st) M P := zk_R_nx um217 (rfl : zk_lk zm_217.2.2.2.2.2 362 = some (.aload_n 0)) rfl
set_option maxRecDepth 20000 in
theorem u217_363 {x0 x1 x2 : Option Value} {v : Int32} : zk_R sc d 217 363 [x0, x1, x2, some (.int v)] st M P = zk_R sc d 217 364 [x0, x1, x2, some (.int v)] (.int v :: st) M P := zk_R_nx um217 (rfl : zk_lk zm_217.2.2.2.2.2 363 = some (.iload_n 3)) rfl
set_option maxRecDepth 20000 in
theorem u217_364 {x0 x1 x2 x3 : Option Value} : zk_R sc d 217 364 [x0, x1, x2, x3] st M P = zk_R sc d 217 365 [x0, x1, x2, x3] (.int 1 :: st) M P := zr_iconst um217 (rfl : zk_lk zm_217.2.2.2.2.2 364 = some (.iconst 1)) (by decide)
set_option maxRecDepth 20000 in
theorem u217_365 {x0 x1 x2 x3 : Option Value} {v w : Int32} : zk_R sc d 217 365 [x0, x1, x2, x3] (.int w :: .int v :: st) M P = zk_R sc d 217 366 [x0, x1, x2, x3] (.int (v + w) :: st) M P := zk_R_nx um217 (rfl : zk_lk zm_217.2.2.2.2.2 365 = some (.iadd)) rfl
set_option maxRecDepth 20000 in
theorem u217_367 {x1 x2 x3 : Option Value} {v : Nat} : zk_R sc d 217 367 [some (.ref v), x1, x2, x3] st M P = zk_R sc d 217 368 [some (.ref v), x1, x2, x3] (.ref v :: st) M P := zk_R_nx um217 (rfl : zk_lk zm_217.2.2.2.2.2 367 = some (.aload_n 0)) rfl
set_option maxRecDepth 20000 in
theorem u217_368 {x0 x1 x2 : Option Value} {v : Int32} : zk_R sc d 217 368 [x0, x1, x2, some (.int v)] st M P = zk_R sc d 217 369 [x0, x1, x2, some (.int v)] (.int v :: st) M P := zk_R_nx um217 (rfl : zk_lk zm_217.2.2.2.2.2 368 = some (.iload_n 3)) rfl
set_option maxRecDepth 20000 in
theorem u217_369 {x0 x1 x2 x3 : Option Value} : zk_R sc d 217 369 [x0, x1, x2, x3] st M P = zk_R sc d 217 370 [x0, x1, x2, x3] (.int 2 :: st) M P := zr_iconst um217 (rfl : zk_lk zm_217.2.2.2.2.2 369 = some (.iconst 2)) (by decide)
set_option maxRecDepth 20000 in
theorem u217_370 {x0 x1 x2 x3 : Option Value} {v w : Int32} : zk_R sc d 217 370 [x0, x1, x2, x3] (.int w :: .int v :: st) M P = zk_R sc d 217 371 [x0, x1, x2, x3] (.int (v + w) :: st) M P := zk_R_nx um217 (rfl : zk_lk zm_217.2.2.2.2.2 370 = some (.iadd)) rfl
set_option maxRecDepth 20000 in
theorem u217_372 {x1 x2 x3 : Option Value} {v : Nat} : zk_R sc d 217 372 [some (.ref v), x1, x2, x3] st M P = zk_R sc d 217 373 [some (.ref v), x1, x2, x3] (.ref v :: st) M P := zk_R_nx um217 (rfl : zk_lk zm_217.2.2.2.2.2 372 = some (.aload_n 0)) rfl
set_option maxRecDepth 20000 in
theorem u217_373 {x0 x1 x2 : Option Value} {v : Int32} : zk_R sc d 217 373 [x0, x1, x2, some (.int v)] st M P = zk_R sc d 217 374 [x0, x1, x2, some (.int v)] (.int v :: st) M P := zk_R_nx um217 (rfl : zk_lk zm_217.2.2.2.2.2 373 = some (.iload_n 3)) rfl
set_option maxRecDepth 20000 in
theorem u217_374 {x0 x1 x2 x3 : Option Value} : zk_R sc d 217 374 [x0, x1, x2, x3] st M P = zk_R sc d 217 375 [x0, x1, x2, x3] (.int 3 :: st) M P := zr_iconst um217 (rfl : zk_lk zm_217.2.2.2.2.2 374 = some (.iconst 3)) (by decide)
set_option maxRecDepth 20000 in
theorem u217_375 {x0 x1 x2 x3 : Option Value} {v w : Int32} : zk_R sc d 217 375 [x0, x1, x2, x3] (.int w :: .int v :: st) M P = zk_R sc d 217 376 [x0, x1, x2, x3] (.int (v + w) :: st) M P := zk_R_nx um217 (rfl : zk_lk zm_217.2.2.2.2.2 375 = some (.iadd)) rfl
set_option maxRecDepth 20000 in
theorem u217_377 {x0 x1 x2 x3 : Option Value} {a0 : Nat} {a1 : Int32} {a2 : Int32} {a3 : Int32} {r0 : Int32} (h1 : a0 < M.1) (h2 : (zk_sh a0).1 = 0) (h3 : (zk_sh a0).2.1 = 6) : zk_R sc (d + 1) 217 377 [x0, x1, x2, x3] [.int a3, .int a2, .int a1, .ref a0, .int r0] M P = zk_R sc d 144 0 [some (.ref a0), some (.int a1), some (.int a2), some (.int a3)] [] M (fun r M' => zk_R sc (d + 1) 217 380 [x0, x1, x2, x3] (r.toList ++ [.int r0]) M' P) := zr_iv (as := [.int a1, .int a2, .int a3]) (rest := [.int r0]) um217 (rfl : zk_lk zm_217.2.2.2.2.2 377 = some (.invokevirtual 36)) rfl (rfl : zk_mt 144 = some zm_144) rfl rfl rfl rfl rfl h1 h2 h3
set_option maxRecDepth 20000 in
theorem u217_380 {x0 x1 x2 x3 : Option Value} {x y : Int32} : zk_R sc d 217 380 [x0, x1, x2, x3] (.int y :: .int x :: st) M P = if x = y then zk_R sc d 217 1412 [x0, x1, x2, x3] st M P else zk_R sc d 217 383 [x0, x1, x2, x3] st M P := zr_ic_eq um217 (rfl : zk_lk zm_217.2.2.2.2.2 380 = some (.if_icmp .eq (1032))) (by decide)
set_option maxRecDepth 20000 in
theorem u217_383 {x0 x1 x2 x3 : Option Value} : zk_R sc d 217 383 [x0, x1, x2, x3] st M P = zk_R sc d 217 384 [x0, x1, x2, x3] (.int 0 :: st) M P := zr_iconst um217 (rfl : zk_lk zm_217.2.2.2.2.2 383 = some (.iconst 0)) (by decide)
set_option maxRecDepth 20000 in
theorem u217_384 {x0 x1 x2 x3 : Option Value} {v : Int32} : zk_R sc d 217 384 [x0, x1, x2, x3] [.int v] M P = ((v = 0 ∨ v = 1) ∧ P (some (.int v)) M) := zr_retb um217 (rfl : zk_lk zm_217.2.2.2.2.2 384 = some (.ireturn)) rfl
set_option maxRecDepth 20000 in
theorem u217_385 {x0 x2 x3 : Option Value} {v : Nat} : zk_R sc d 217 385 [x0, some (.ref v), x2, x3] st M P = zk_R sc d 217 386 [x0, some (.ref v), x2, x3] (.ref v :: st) M P := zk_R_nx um217 (rfl : zk_lk zm_217.2.2.2.2.2 385 = some (.aload_n 1)) rfl
set_option maxRecDepth 20000 in
theorem u217_386 {x1 x2 x3 : Option Value} {v : Nat} : zk_R sc d 217 386 [some (.ref v), x1, x2, x3] st M P = zk_R sc d 217 387 [some (.ref v), x1, x2, x3] (.ref v :: st) M P := zk_R_nx um217 (rfl : zk_lk zm_217.2.2.2.2.2 386 = some (.aload_n 0)) rfl
set_option maxRecDepth 20000 in
theorem u217_387 {x0 x1 x2 : Option Value} {v : Int32} : zk_R sc d 217 387 [x0, x1, x2, some (.int v)] st M P = zk_R sc d 217 388 [x0, x1, x2, some (.int v)] (.int v :: st) M P := zk_R_nx um217 (rfl : zk_lk zm_217.2.2.2.2.2 387 = some (.iload_n 3)) rfl
set_option maxRecDepth 20000 in
theorem u217_388 {x0 x1 x2 x3 : Option Value} : zk_R sc d 217 388 [x0, x1, x2, x3] st M P = zk_R sc d 217 389 [x0, x1, x2, x3] (.int 1 :: st) M P := zr_iconst um217 (rfl : zk_lk zm_217.2.2.2.2.2 388 = some (.iconst 1)) (by decide)
set_option maxRecDepth 20000 in
theorem u217_389 {x0 x1 x2 x3 : Option Value} {v w : Int32} : zk_R sc d 217 389 [x0, x1, x2, x3] (.int w :: .int v :: st) M P = zk_R sc d 217 390 [x0, x1, x2, x3] (.int (v + w) :: st) M P := zk_R_nx um217 (rfl : zk_lk zm_217.2.2.2.2.2 389 = some (.iadd)) rfl
set_option maxRecDepth 20000 in
theorem u217_391 {x1 x2 x3 : Option Value} {v : Nat} : zk_R sc d 217 391 [some (.ref v), x1, x2, x3] st M P = zk_R sc d 217 392 [some (.ref v), x1, x2, x3] (.ref v :: st) M P := zk_R_nx um217 (rfl : zk_lk zm_217.2.2.2.2.2 391 = some (.aload_n 0)) rfl
set_option maxRecDepth 20000 in
theorem u217_392 {x0 x1 x2 : Option Value} {v : Int32} : zk_R sc d 217 392 [x0, x1, x2, some (.int v)] st M P = zk_R sc d 217 393 [x0, x1, x2, some (.int v)] (.int v :: st) M P := zk_R_nx um217 (rfl : zk_lk zm_217.2.2.2.2.2 392 = some (.iload_n 3)) rfl
set_option maxRecDepth 20000 in
theorem u217_393 {x0 x1 x2 x3 : Option Value} : zk_R sc d 217 393 [x0, x1, x2, x3] st M P = zk_R sc d 217 394 [x0, x1, x2, x3] (.int 2 :: st) M P := zr_iconst um217 (rfl : zk_lk zm_217.2.2.2.2.2 393 = some (.iconst 2)) (by decide)
set_option maxRecDepth 20000 in
theorem u217_394 {x0 x1 x2 x3 : Option Value} {v w : Int32} : zk_R sc d 217 394 [x0, x1, x2, x3] (.int w :: .int v :: st) M P = zk_R sc d 217 395 [x0, x1, x2, x3] (.int (v + w) :: st) M P := zk_R_nx um217 (rfl : zk_lk zm_217.2.2.2.2.2 394 = some (.iadd)) rfl
set_option maxRecDepth 20000 in
theorem u217_396 {x0 x1 x2 x3 : Option Value} {a0 : Nat} {a1 : Int32} {a2 : Int32} (h1 : a0 < M.1) (h2 : (zk_sh a0).1 = 0) (h3 : (zk_sh a0).2.1 = 0) : zk_R sc (d + 1) 217 396 [x0, x1, x2, x3] [.int a2, .int a1, .ref a0] M P = zk_R sc d 10 0 [some (.ref a0), some (.int a1), some (.int a2)] [] M (fun r M' => zk_R sc (d + 1) 217 399 [x0, x1, x2, x3] (r.toList ++ []) M' P) := zr_iv (as := [.int a1, .int a2]) (rest := []) um217 (rfl : zk_lk zm_217.2.2.2.2.2 396 = some (.invokevirtual 37)) rfl (rfl : zk_mt 10 = some zm_10) rfl rfl rfl rfl rfl h1 h2 h3
set_option maxRecDepth 20000 in
theorem u217_399 {x0 x1 x3 : Option Value} {v : Nat} : zk_R sc d 217 399 [x0, x1, some (.ref v), x3] st M P = zk_R sc d 217 400 [x0, x1, some (.ref v), x3] (.ref v :: st) M P := zk_R_nx um217 (rfl : zk_lk zm_217.2.2.2.2.2 399 = some (.aload_n 2)) rfl
set_option maxRecDepth 20000 in
theorem u217_400 {x1 x2 x3 : Option Value} {v : Nat} : zk_R sc d 217 400 [some (.ref v), x1, x2, x3] st M P = zk_R sc d 217 401 [some (.ref v), x1, x2, x3] (.ref v :: st) M P := zk_R_nx um217 (rfl : zk_lk zm_217.2.2.2.2.2 400 = some (.aload_n 0)) rfl
set_option maxRecDepth 20000 in
theorem u217_401 {x0 x1 x2 : Option Value} {v : Int32} : zk_R sc d 217 401 [x0, x1, x2, some (.int v)] st M P = zk_R sc d 217 402 [x0, x1, x2, some (.int v)] (.int v :: st) M P := zk_R_nx um217 (rfl : zk_lk zm_217.2.2.2.2.2 401 = some (.iload_n 3)) rfl
set_option maxRecDepth 20000 in
theorem u217_402 {x0 x1 x2 x3 : Option Value} : zk_R sc d 217 402 [x0, x1, x2, x3] st M P = zk_R sc d 217 403 [x0, x1, x2, x3] (.int 1 :: st) M P := zr_iconst um217 (rfl : zk_lk zm_217.2.2.2.2.2 402 = some (.iconst 1)) (by decide)
set_option maxRecDepth 20000 in
theorem u217_403 {x0 x1 x2 x3 : Option Value} {v w : Int32} : zk_R sc d 217 403 [x0, x1, x2, x3] (.int w :: .int v :: st) M P = zk_R sc d 217 404 [x0, x1, x2, x3] (.int (v + w) :: st) M P := zk_R_nx um217 (rfl : zk_lk zm_217.2.2.2.2.2 403 = some (.iadd)) rfl
set_option maxRecDepth 20000 in
theorem u217_405 {x1 x2 x3 : Option Value} {v : Nat} : zk_R sc d 217 405 [some (.ref v), x1, x2, x3] st M P = zk_R sc d 217 406 [some (.ref v), x1, x2, x3] (.ref v :: st) M P := zk_R_nx um217 (rfl : zk_lk zm_217.2.2.2.2.2 405 = some (.aload_n 0)) rfl
set_option maxRecDepth 20000 in
theorem u217_406 {x0 x1 x2 : Option Value} {v : Int32} : zk_R sc d 217 406 [x0, x1, x2, some (.int v)] st M P = zk_R sc d 217 407 [x0, x1, x2, some (.int v)] (.int v :: st) M P := zk_R_nx um217 (rfl : zk_lk zm_217.2.2.2.2.2 406 = some (.iload_n 3)) rfl
set_option maxRecDepth 20000 in
theorem u217_407 {x0 x1 x2 x3 : Option Value} : zk_R sc d 217 407 [x0, x1, x2, x3] st M P = zk_R sc d 217 408 [x0, x1, x2, x3] (.int 2 :: st) M P := zr_iconst um217 (rfl : zk_lk zm_217.2.2.2.2.2 407 = some (.iconst 2)) (by decide)
set_option maxRecDepth 20000 in
theorem u217_408 {x0 x1 x2 x3 : Option Value} {v w : Int32} : zk_R sc d 217 408 [x0, x1, x2, x3] (.int w :: .int v :: st) M P = zk_R sc d 217 409 [x0, x1, x2, x3] (.int (v + w) :: st) M P := zk_R_nx um217 (rfl : zk_lk zm_217.2.2.2.2.2 408 = some (.iadd)) rfl
set_option maxRecDepth 20000 in
theorem u217_410 {x0 x1 x2 x3 : Option Value} {a0 : Nat} {a1 : Int32} {a2 : Int32} {r0 : Int32} (h1 : a0 < M.1) (h2 : (zk_sh a0).1 = 0) (h3 : (zk_sh a0).2.1 = 6) : zk_R sc (d + 1) 217 410 [x0, x1, x2, x3] [.int a2, .int a1, .ref a0, .int r0] M P = zk_R sc d 150 0 [some (.ref a0), some (.int a1), some (.int a2)] [] M (fun r M' => zk_R sc (d + 1) 217 413 [x0, x1, x2, x3] (r.toList ++ [.int r0]) M' P) := zr_iv (as := [.int a1, .int a2]) (rest := [.int r0]) um217 (rfl : zk_lk zm_217.2.2.2.2.2 410 = some (.invokevirtual 41)) rfl (rfl : zk_mt 150 = some zm_150) rfl rfl rfl rfl rfl h1 h2 h3
set_option maxRecDepth 20000 in
theorem u217_413 {x0 x1 x2 x3 : Option Value} {x y : Int32} : zk_R sc d 217 413 [x0, x1, x2, x3] (.int y :: .int x :: st) M P = if x = y then zk_R sc d 217 1412 [x0, x1, x2, x3] st M P else zk_R sc d 217 416 [x0, x1, x2, x3] st M P := zr_ic_eq um217 (rfl : zk_lk zm_217.2.2.2.2.2 413 = some (.if_icmp .eq (999))) (by decide)
set_option maxRecDepth 20000 in
theorem u217_416 {x0 x1 x2 x3 : Option Value} : zk_R sc d 217 416 [x0, x1, x2, x3] st M P = zk_R sc d 217 417 [x0, x1, x2, x3] (.int 0 :: st) M P := zr_iconst um217 (rfl : zk_lk zm_217.2.2.2.2.2 416 = some (.iconst 0)) (by decide)
set_option maxRecDepth 20000 in
theorem u217_417 {x0 x1 x2 x3 : Option Value} {v : Int32} : zk_R sc d 217 417 [x0, x1, x2, x3] [.int v] M P = ((v = 0 ∨ v = 1) ∧ P (some (.int v)) M) := zr_retb um217 (rfl : zk_lk zm_217.2.2.2.2.2 417 = some (.ireturn)) rfl
set_option maxRecDepth 20000 in
theorem u217_418 {x0 x2 x3 : Option Value} {v : Nat} : zk_R sc d 217 418 [x0, some (.ref v), x2, x3] st M P = zk_R sc d 217 419 [x0, some (.ref v), x2, x3] (.ref v :: st) M P := zk_R_nx um217 (rfl : zk_lk zm_217.2.2.2.2.2 418 = some (.aload_n 1)) rfl
set_option maxRecDepth 20000 in
theorem u217_419 {x0 x1 x2 x3 : Option Value} {a0 : Nat} (h1 : a0 < M.1) (h2 : (zk_sh a0).1 = 0) (h3 : (zk_sh a0).2.1 = 0) : zk_R sc (d + 1) 217 419 [x0, x1, x2, x3] [.ref a0] M P = zk_R sc d 11 0 [some (.ref a0)] [] M (fun r M' => zk_R sc (d + 1) 217 422 [x0, x1, x2, x3] (r.toList ++ []) M' P) := zr_iv (as := []) (rest := []) um217 (rfl : zk_lk zm_217.2.2.2.2.2 419 = some (.invokevirtual 42)) rfl (rfl : zk_mt 11 = some zm_11) rfl rfl rfl rfl rfl h1 h2 h3
set_option maxRecDepth 20000 in
theorem u217_422 {x0 x1 x3 : Option Value} {v : Nat} : zk_R sc d 217 422 [x0, x1, some (.ref v), x3] st M P = zk_R sc d 217 423 [x0, x1, some (.ref v), x3] (.ref v :: st) M P := zk_R_nx um217 (rfl : zk_lk zm_217.2.2.2.2.2 422 = some (.aload_n 2)) rfl
set_option maxRecDepth 20000 in
theorem u217_423 {x0 x1 x2 x3 : Option Value} {a0 : Nat} {r0 : Int32} (h1 : a0 < M.1) (h2 : (zk_sh a0).1 = 0) (h3 : (zk_sh a0).2.1 = 6) : zk_R sc (d + 1) 217 423 [x0, x1, x2, x3] [.ref a0, .int r0] M P = zk_R sc d 151 0 [some (.ref a0)] [] M (fun r M' => zk_R sc (d + 1) 217 426 [x0, x1, x2, x3] (r.toList ++ [.int r0]) M' P) := zr_iv (as := []) (rest := [.int r0]) um217 (rfl : zk_lk zm_217.2.2.2.2.2 423 = some (.invokevirtual 45)) rfl (rfl : zk_mt 151 = some zm_151) rfl rfl rfl rfl rfl h1 h2 h3
set_option maxRecDepth 20000 in
theorem u217_426 {x0 x1 x2 x3 : Option Value} {x y : Int32} : zk_R sc d 217 426 [x0, x1, x2, x3] (.int y :: .int x :: st) M P = if x = y then zk_R sc d 217 1412 [x0, x1, x2, x3] st M P else zk_R sc d 217 429 [x0, x1, x2, x3] st M P := zr_ic_eq um217 (rfl : zk_lk zm_217.2.2.2.2.2 426 = some (.if_icmp .eq (986))) (by decide)
set_option maxRecDepth 20000 in
theorem u217_429 {x0 x1 x2 x3 : Option Value} : zk_R sc d 217 429 [x0, x1, x2, x3] st M P = zk_R sc d 217 430 [x0, x1, x2, x3] (.int 0 :: st) M P := zr_iconst um217 (rfl : zk_lk zm_217.2.2.2.2.2 429 = some (.iconst 0)) (by decide)
set_option maxRecDepth 20000 in
theorem u217_430 {x0 x1 x2 x3 : Option Value} {v : Int32} : zk_R sc d 217 430 [x0, x1, x2, x3] [.int v] M P = ((v = 0 ∨ v = 1) ∧ P (some (.int v)) M) := zr_retb um217 (rfl : zk_lk zm_217.2.2.2.2.2 430 = some (.ireturn)) rfl
set_option maxRecDepth 20000 in
theorem u217_431 {x0 x2 x3 : Option Value} {v : Nat} : zk_R sc d 217 431 [x0, some (.ref v), x2, x3] st M P = zk_R sc d 217 432 [x0, some (.ref v), x2, x3] (.ref v :: st) M P := zk_R_nx um217 (rfl : zk_lk zm_217.2.2.2.2.2 431 = some (.aload_n 1)) rfl
set_option maxRecDepth 20000 in
theorem u217_432 {x1 x2 x3 : Option Value} {v : Nat} : zk_R sc d 217 432 [some (.ref v), x1, x2, x3] st M P = zk_R sc d 217 433 [some (.ref v), x1, x2, x3] (.ref v :: st) M P := zk_R_nx um217 (rfl : zk_lk zm_217.2.2.2.2.2 432 = some (.aload_n 0)) rfl
set_option maxRecDepth 20000 in
theorem u217_433 {x0 x1 x2 : Option Value} {v : Int32} : zk_R sc d 217 433 [x0, x1, x2, some (.int v)] st M P = zk_R sc d 217 434 [x0, x1, x2, some (.int v)] (.int v :: st) M P := zk_R_nx um217 (rfl : zk_lk zm_217.2.2.2.2.2 433 = some (.iload_n 3)) rfl
set_option maxRecDepth 20000 in
theorem u217_434 {x0 x1 x2 x3 : Option Value} : zk_R sc d 217 434 [x0, x1, x2, x3] st M P = zk_R sc d 217 435 [x0, x1, x2, x3] (.int 1 :: st) M P := zr_iconst um217 (rfl : zk_lk zm_217.2.2.2.2.2 434 = some (.iconst 1)) (by decide)
set_option maxRecDepth 20000 in
theorem u217_435 {x0 x1 x2 x3 : Option Value} {v w : Int32} : zk_R sc d 217 435 [x0, x1, x2, x3] (.int w :: .int v :: st) M P = zk_R sc d 217 436 [x0, x1, x2, x3] (.int (v + w) :: st) M P := zk_R_nx um217 (rfl : zk_lk zm_217.2.2.2.2.2 435 = some (.iadd)) rfl
set_option maxRecDepth 20000 in
theorem u217_437 {x1 x2 x3 : Option Value} {v : Nat} : zk_R sc d 217 437 [some (.ref v), x1, x2, x3] st M P = zk_R sc d 217 438 [some (.ref v), x1, x2, x3] (.ref v :: st) M P := zk_R_nx um217 (rfl : zk_lk zm_217.2.2.2.2.2 437 = some (.aload_n 0)) rfl
set_option maxRecDepth 20000 in
theorem u217_438 {x0 x1 x2 : Option Value} {v : Int32} : zk_R sc d 217 438 [x0, x1, x2, some (.int v)] st M P = zk_R sc d 217 439 [x0, x1, x2, some (.int v)] (.int v :: st) M P := zk_R_nx um217 (rfl : zk_lk zm_217.2.2.2.2.2 438 = some (.iload_n 3)) rfl
set_option maxRecDepth 20000 in
theorem u217_439 {x0 x1 x2 x3 : Option Value} : zk_R sc d 217 439 [x0, x1, x2, x3] st M P = zk_R sc d 217 440 [x0, x1, x2, x3] (.int 2 :: st) M P := zr_iconst um217 (rfl : zk_lk zm_217.2.2.2.2.2 439 = some (.iconst 2)) (by decide)
set_option maxRecDepth 20000 in
theorem u217_440 {x0 x1 x2 x3 : Option Value} {v w : Int32} : zk_R sc d 217 440 [x0, x1, x2, x3] (.int w :: .int v :: st) M P = zk_R sc d 217 441 [x0, x1, x2, x3] (.int (v + w) :: st) M P := zk_R_nx um217 (rfl : zk_lk zm_217.2.2.2.2.2 440 = some (.iadd)) rfl
set_option maxRecDepth 20000 in
theorem u217_442 {x0 x1 x2 x3 : Option Value} {a0 : Nat} {a1 : Int32} {a2 : Int32} (h1 : a0 < M.1) (h2 : (zk_sh a0).1 = 0) (h3 : (zk_sh a0).2.1 = 0) : zk_R sc (d + 1) 217 442 [x0, x1, x2, x3] [.int a2, .int a1, .ref a0] M P = zk_R sc d 12 0 [some (.ref a0), some (.int a1), some (.int a2), none] [] M (fun r M' => zk_R sc (d + 1) 217 445 [x0, x1, x2, x3] (r.toList ++ []) M' P) := zr_iv (as := [.int a1, .int a2]) (rest := []) um217 (rfl : zk_lk zm_217.2.2.2.2.2 442 = some (.invokevirtual 46)) rfl (rfl : zk_mt 12 = some zm_12) rfl rfl rfl rfl rfl h1 h2 h3
set_option maxRecDepth 20000 in
theorem u217_445 {x0 x1 x3 : Option Value} {v : Nat} : zk_R sc d 217 445 [x0, x1, some (.ref v), x3] st M P = zk_R sc d 217 446 [x0, x1, some (.ref v), x3] (.ref v :: st) M P := zk_R_nx um217 (rfl : zk_lk zm_217.2.2.2.2.2 445 = some (.aload_n 2)) rfl
set_option maxRecDepth 20000 in
theorem u217_446 {x1 x2 x3 : Option Value} {v : Nat} : zk_R sc d 217 446 [some (.ref v), x1, x2, x3] st M P = zk_R sc d 217 447 [some (.ref v), x1, x2, x3] (.ref v :: st) M P := zk_R_nx um217 (rfl : zk_lk zm_217.2.2.2.2.2 446 = some (.aload_n 0)) rfl
set_option maxRecDepth 20000 in
theorem u217_447 {x0 x1 x2 : Option Value} {v : Int32} : zk_R sc d 217 447 [x0, x1, x2, some (.int v)] st M P = zk_R sc d 217 448 [x0, x1, x2, some (.int v)] (.int v :: st) M P := zk_R_nx um217 (rfl : zk_lk zm_217.2.2.2.2.2 447 = some (.iload_n 3)) rfl
set_option maxRecDepth 20000 in
theorem u217_448 {x0 x1 x2 x3 : Option Value} : zk_R sc d 217 448 [x0, x1, x2, x3] st M P = zk_R sc d 217 449 [x0, x1, x2, x3] (.int 1 :: st) M P := zr_iconst um217 (rfl : zk_lk zm_217.2.2.2.2.2 448 = some (.iconst 1)) (by decide)
set_option maxRecDepth 20000 in
theorem u217_449 {x0 x1 x2 x3 : Option Value} {v w : Int32} : zk_R sc d 217 449 [x0, x1, x2, x3] (.int w :: .int v :: st) M P = zk_R sc d 217 450 [x0, x1, x2, x3] (.int (v + w) :: st) M P := zk_R_nx um217 (rfl : zk_lk zm_217.2.2.2.2.2 449 = some (.iadd)) rfl
set_option maxRecDepth 20000 in
theorem u217_451 {x1 x2 x3 : Option Value} {v : Nat} : zk_R sc d 217 451 [some (.ref v), x1, x2, x3] st M P = zk_R sc d 217 452 [some (.ref v), x1, x2, x3] (.ref v :: st) M P := zk_R_nx um217 (rfl : zk_lk zm_217.2.2.2.2.2 451 = some (.aload_n 0)) rfl
set_option maxRecDepth 20000 in
theorem u217_452 {x0 x1 x2 : Option Value} {v : Int32} : zk_R sc d 217 452 [x0, x1, x2, some (.int v)] st M P = zk_R sc d 217 453 [x0, x1, x2, some (.int v)] (.int v :: st) M P := zk_R_nx um217 (rfl : zk_lk zm_217.2.2.2.2.2 452 = some (.iload_n 3)) rfl
set_option maxRecDepth 20000 in
theorem u217_453 {x0 x1 x2 x3 : Option Value} : zk_R sc d 217 453 [x0, x1, x2, x3] st M P = zk_R sc d 217 454 [x0, x1, x2, x3] (.int 2 :: st) M P := zr_iconst um217 (rfl : zk_lk zm_217.2.2.2.2.2 453 = some (.iconst 2)) (by decide)
set_option maxRecDepth 20000 in
theorem u217_454 {x0 x1 x2 x3 : Option Value} {v w : Int32} : zk_R sc d 217 454 [x0, x1, x2, x3] (.int w :: .int v :: st) M P = zk_R sc d 217 455 [x0, x1, x2, x3] (.int (v + w) :: st) M P := zk_R_nx um217 (rfl : zk_lk zm_217.2.2.2.2.2 454 = some (.iadd)) rfl
set_option maxRecDepth 20000 in
theorem u217_456 {x0 x1 x2 x3 : Option Value} {a0 : Nat} {a1 : Int32} {a2 : Int32} {r0 : Int32} (h1 : a0 < M.1) (h2 : (zk_sh a0).1 = 0) (h3 : (zk_sh a0).2.1 = 6) : zk_R sc (d + 1) 217 456 [x0, x1, x2, x3] [.int a2, .int a1, .ref a0, .int r0] M P = zk_R sc d 152 0 [some (.ref a0), some (.int a1), some (.int a2), none] [] M (fun r M' => zk_R sc (d + 1) 217 459 [x0, x1, x2, x3] (r.toList ++ [.int r0]) M' P) := zr_iv (as := [.int a1, .int a2]) (rest := [.int r0]) um217 (rfl : zk_lk zm_217.2.2.2.2.2 456 = some (.invokevirtual 49)) rfl (rfl : zk_mt 152 = some zm_152) rfl rfl rfl rfl rfl h1 h2 h3
set_option maxRecDepth 20000 in
theorem u217_459 {x0 x1 x2 x3 : Option Value} {x y : Int32} : zk_R sc d 217 459 [x0, x1, x2, x3] (.int y :: .int x :: st) M P = if x = y then zk_R sc d 217 1412 [x0, x1, x2, x3] st M P else zk_R sc d 217 462 [x0, x1, x2, x3] st M P := zr_ic_eq um217 (rfl : zk_lk zm_217.2.2.2.2.2 459 = some (.if_icmp .eq (953))) (by decide)
set_option maxRecDepth 20000 in
theorem u217_462 {x0 x1 x2 x3 : Option Value} : zk_R sc d 217 462 [x0, x1, x2, x3] st M P = zk_R sc d 217 463 [x0, x1, x2, x3] (.int 0 :: st) M P := zr_iconst um217 (rfl : zk_lk zm_217.2.2.2.2.2 462 = some (.iconst 0)) (by decide)
set_option maxRecDepth 20000 in
theorem u217_463 {x0 x1 x2 x3 : Option Value} {v : Int32} : zk_R sc d 217 463 [x0, x1, x2, x3] [.int v] M P = ((v = 0 ∨ v = 1) ∧ P (some (.int v)) M) := zr_retb um217 (rfl : zk_lk zm_217.2.2.2.2.2 463 = some (.ireturn)) rfl
set_option maxRecDepth 20000 in
theorem u217_464 {x0 x2 x3 : Option Value} {v : Nat} : zk_R sc d 217 464 [x0, some (.ref v), x2, x3] st M P = zk_R sc d 217 465 [x0, some (.ref v), x2, x3] (.ref v :: st) M P := zk_R_nx um217 (rfl : zk_lk zm_217.2.2.2.2.2 464 = some (.aload_n 1)) rfl
set_option maxRecDepth 20000 in
theorem u217_465 {x1 x2 x3 : Option Value} {v : Nat} : zk_R sc d 217 465 [some (.ref v), x1, x2, x3] st M P = zk_R sc d 217 466 [some (.ref v), x1, x2, x3] (.ref v :: st) M P := zk_R_nx um217 (rfl : zk_lk zm_217.2.2.2.2.2 465 = some (.aload_n 0)) rfl
set_option maxRecDepth 20000 in
theorem u217_466 {x0 x1 x2 : Option Value} {v : Int32} : zk_R sc d 217 466 [x0, x1, x2, some (.int v)] st M P = zk_R sc d 217 467 [x0, x1, x2, some (.int v)] (.int v :: st) M P := zk_R_nx um217 (rfl : zk_lk zm_217.2.2.2.2.2 466 = some (.iload_n 3)) rfl
set_option maxRecDepth 20000 in
theorem u217_467 {x0 x1 x2 x3 : Option Value} : zk_R sc d 217 467 [x0, x1, x2, x3] st M P = zk_R sc d 217 468 [x0, x1, x2, x3] (.int 1 :: st) M P := zr_iconst um217 (rfl : zk_lk zm_217.2.2.2.2.2 467 = some (.iconst 1)) (by decide)
set_option maxRecDepth 20000 in
theorem u217_468 {x0 x1 x2 x3 : Option Value} {v w : Int32} : zk_R sc d 217 468 [x0, x1, x2, x3] (.int w :: .int v :: st) M P = zk_R sc d 217 469 [x0, x1, x2, x3] (.int (v + w) :: st) M P := zk_R_nx um217 (rfl : zk_lk zm_217.2.2.2.2.2 468 = some (.iadd)) rfl
set_option maxRecDepth 20000 in
theorem u217_470 {x1 x2 x3 : Option Value} {v : Nat} : zk_R sc d 217 470 [some (.ref v), x1, x2, x3] st M P = zk_R sc d 217 471 [some (.ref v), x1, x2, x3] (.ref v :: st) M P := zk_R_nx um217 (rfl : zk_lk zm_217.2.2.2.2.2 470 = some (.aload_n 0)) rfl
set_option maxRecDepth 20000 in
theorem u217_471 {x0 x1 x2 : Option Value} {v : Int32} : zk_R sc d 217 471 [x0, x1, x2, some (.int v)] st M P = zk_R sc d 217 472 [x0, x1, x2, some (.int v)] (.int v :: st) M P := zk_R_nx um217 (rfl : zk_lk zm_217.2.2.2.2.2 471 = some (.iload_n 3)) rfl
set_option maxRecDepth 20000 in
theorem u217_472 {x0 x1 x2 x3 : Option Value} : zk_R sc d 217 472 [x0, x1, x2, x3] st M P = zk_R sc d 217 473 [x0, x1, x2, x3] (.int 2 :: st) M P := zr_iconst um217 (rfl : zk_lk zm_217.2.2.2.2.2 472 = some (.iconst 2)) (by decide)
set_option maxRecDepth 20000 in
theorem u217_473 {x0 x1 x2 x3 : Option Value} {v w : Int32} : zk_R sc d 217 473 [x0, x1, x2, x3] (.int w :: .int v :: st) M P = zk_R sc d 217 474 [x0, x1, x2, x3] (.int (v + w) :: st) M P := zk_R_nx um217 (rfl : zk_lk zm_217.2.2.2.2.2 473 = some (.iadd)) rfl
set_option maxRecDepth 20000 in
theorem u217_475 {x0 x1 x2 x3 : Option Value} {a0 : Nat} {a1 : Int32} {a2 : Int32} (h1 : a0 < M.1) (h2 : (zk_sh a0).1 = 0) (h3 : (zk_sh a0).2.1 = 0) : zk_R sc (d + 1) 217 475 [x0, x1, x2, x3] [.int a2, .int a1, .ref a0] M P = zk_R sc d 13 0 [some (.ref a0), some (.int a1), some (.int a2)] [] M (fun r M' => zk_R sc (d + 1) 217 478 [x0, x1, x2, x3] (r.toList ++ []) M' P) := zr_iv (as := [.int a1, .int a2]) (rest := []) um217 (rfl : zk_lk zm_217.2.2.2.2.2 475 = some (.invokevirtual 50)) rfl (rfl : zk_mt 13 = some zm_13) rfl rfl rfl rfl rfl h1 h2 h3
set_option maxRecDepth 20000 in
theorem u217_478 {x0 x1 x3 : Option Value} {v : Nat} : zk_R sc d 217 478 [x0, x1, some (.ref v), x3] st M P = zk_R sc d 217 479 [x0, x1, some (.ref v), x3] (.ref v :: st) M P := zk_R_nx um217 (rfl : zk_lk zm_217.2.2.2.2.2 478 = some (.aload_n 2)) rfl
set_option maxRecDepth 20000 in
theorem u217_479 {x1 x2 x3 : Option Value} {v : Nat} : zk_R sc d 217 479 [some (.ref v), x1, x2, x3] st M P = zk_R sc d 217 480 [some (.ref v), x1, x2, x3] (.ref v :: st) M P := zk_R_nx um217 (rfl : zk_lk zm_217.2.2.2.2.2 479 = some (.aload_n 0)) rfl
set_option maxRecDepth 20000 in
theorem u217_480 {x0 x1 x2 : Option Value} {v : Int32} : zk_R sc d 217 480 [x0, x1, x2, some (.int v)] st M P = zk_R sc d 217 481 [x0, x1, x2, some (.int v)] (.int v :: st) M P := zk_R_nx um217 (rfl : zk_lk zm_217.2.2.2.2.2 480 = some (.iload_n 3)) rfl
set_option maxRecDepth 20000 in
theorem u217_481 {x0 x1 x2 x3 : Option Value} : zk_R sc d 217 481 [x0, x1, x2, x3] st M P = zk_R sc d 217 482 [x0, x1, x2, x3] (.int 1 :: st) M P := zr_iconst um217 (rfl : zk_lk zm_217.2.2.2.2.2 481 = some (.iconst 1)) (by decide)
set_option maxRecDepth 20000 in
theorem u217_482 {x0 x1 x2 x3 : Option Value} {v w : Int32} : zk_R sc d 217 482 [x0, x1, x2, x3] (.int w :: .int v :: st) M P = zk_R sc d 217 483 [x0, x1, x2, x3] (.int (v + w) :: st) M P := zk_R_nx um217 (rfl : zk_lk zm_217.2.2.2.2.2 482 = some (.iadd)) rfl
set_option maxRecDepth 20000 in
theorem u217_484 {x1 x2 x3 : Option Value} {v : Nat} : zk_R sc d 217 484 [some (.ref v), x1, x2, x3] st M P = zk_R sc d 217 485 [some (.ref v), x1, x2, x3] (.ref v :: st) M P := zk_R_nx um217 (rfl : zk_lk zm_217.2.2.2.2.2 484 = some (.aload_n 0)) rfl
set_option maxRecDepth 20000 in
theorem u217_485 {x0 x1 x2 : Option Value} {v : Int32} : zk_R sc d 217 485 [x0, x1, x2, some (.int v)] st M P = zk_R sc d 217 486 [x0, x1, x2, some (.int v)] (.int v :: st) M P := zk_R_nx um217 (rfl : zk_lk zm_217.2.2.2.2.2 485 = some (.iload_n 3)) rfl
set_option maxRecDepth 20000 in
theorem u217_486 {x0 x1 x2 x3 : Option Value} : zk_R sc d 217 486 [x0, x1, x2, x3] st M P = zk_R sc d 217 487 [x0, x1, x2, x3] (.int 2 :: st) M P := zr_iconst um217 (rfl : zk_lk zm_217.2.2.2.2.2 486 = some (.iconst 2)) (by decide)
set_option maxRecDepth 20000 in
theorem u217_487 {x0 x1 x2 x3 : Option Value} {v w : Int32} : zk_R sc d 217 487 [x0, x1, x2, x3] (.int w :: .int v :: st) M P = zk_R sc d 217 488 [x0, x1, x2, x3] (.int (v + w) :: st) M P := zk_R_nx um217 (rfl : zk_lk zm_217.2.2.2.2.2 487 = some (.iadd)) rfl
set_option maxRecDepth 20000 in
theorem u217_489 {x0 x1 x2 x3 : Option Value} {a0 : Nat} {a1 : Int32} {a2 : Int32} {r0 : Int32} (h1 : a0 < M.1) (h2 : (zk_sh a0).1 = 0) (h3 : (zk_sh a0).2.1 = 6) : zk_R sc (d + 1) 217 489 [x0, x1, x2, x3] [.int a2, .int a1, .ref a0, .int r0] M P = zk_R sc d 155 0 [some (.ref a0), some (.int a1), some (.int a2)] [] M (fun r M' => zk_R sc (d + 1) 217 492 [x0, x1, x2, x3] (r.toList ++ [.int r0]) M' P) := zr_iv (as := [.int a1, .int a2]) (rest := [.int r0]) um217 (rfl : zk_lk zm_217.2.2.2.2.2 489 = some (.invokevirtual 53)) rfl (rfl : zk_mt 155 = some zm_155) rfl rfl rfl rfl rfl h1 h2 h3
set_option maxRecDepth 20000 in
theorem u217_492 {x0 x1 x2 x3 : Option Value} {x y : Int32} : zk_R sc d 217 492 [x0, x1, x2, x3] (.int y :: .int x :: st) M P = if x = y then zk_R sc d 217 1412 [x0, x1, x2, x3] st M P else zk_R sc d 217 495 [x0, x1, x2, x3] st M P := zr_ic_eq um217 (rfl : zk_lk zm_217.2.2.2.2.2 492 = some (.if_icmp .eq (920))) (by decide)
set_option maxRecDepth 20000 in
theorem u217_495 {x0 x1 x2 x3 : Option Value} : zk_R sc d 217 495 [x0, x1, x2, x3] st M P = zk_R sc d 217 496 [x0, x1, x2, x3] (.int 0 :: st) M P := zr_iconst um217 (rfl : zk_lk zm_217.2.2.2.2.2 495 = some (.iconst 0)) (by decide)
set_option maxRecDepth 20000 in
theorem u217_496 {x0 x1 x2 x3 : Option Value} {v : Int32} : zk_R sc d 217 496 [x0, x1, x2, x3] [.int v] M P = ((v = 0 ∨ v = 1) ∧ P (some (.int v)) M) := zr_retb um217 (rfl : zk_lk zm_217.2.2.2.2.2 496 = some (.ireturn)) rfl
set_option maxRecDepth 20000 in
theorem u217_497 {x0 x2 x3 : Option Value} {v : Nat} : zk_R sc d 217 497 [x0, some (.ref v), x2, x3] st M P = zk_R sc d 217 498 [x0, some (.ref v), x2, x3] (.ref v :: st) M P := zk_R_nx um217 (rfl : zk_lk zm_217.2.2.2.2.2 497 = some (.aload_n 1)) rfl
set_option maxRecDepth 20000 in
theorem u217_498 {x1 x2 x3 : Option Value} {v : Nat} : zk_R sc d 217 498 [some (.ref v), x1, x2, x3] st M P = zk_R sc d 217 499 [some (.ref v), x1, x2, x3] (.ref v :: st) M P := zk_R_nx um217 (rfl : zk_lk zm_217.2.2.2.2.2 498 = some (.aload_n 0)) rfl
set_option maxRecDepth 20000 in
theorem u217_499 {x0 x1 x2 : Option Value} {v : Int32} : zk_R sc d 217 499 [x0, x1, x2, some (.int v)] st M P = zk_R sc d 217 500 [x0, x1, x2, some (.int v)] (.int v :: st) M P := zk_R_nx um217 (rfl : zk_lk zm_217.2.2.2.2.2 499 = some (.iload_n 3)) rfl
set_option maxRecDepth 20000 in
theorem u217_500 {x0 x1 x2 x3 : Option Value} : zk_R sc d 217 500 [x0, x1, x2, x3] st M P = zk_R sc d 217 501 [x0, x1, x2, x3] (.int 1 :: st) M P := zr_iconst um217 (rfl : zk_lk zm_217.2.2.2.2.2 500 = some (.iconst 1)) (by decide)
set_option maxRecDepth 20000 in
theorem u217_501 {x0 x1 x2 x3 : Option Value} {v w : Int32} : zk_R sc d 217 501 [x0, x1, x2, x3] (.int w :: .int v :: st) M P = zk_R sc d 217 502 [x0, x1, x2, x3] (.int (v + w) :: st) M P := zk_R_nx um217 (rfl : zk_lk zm_217.2.2.2.2.2 501 = some (.iadd)) rfl
set_option maxRecDepth 20000 in
theorem u217_503 {x1 x2 x3 : Option Value} {v : Nat} : zk_R sc d 217 503 [some (.ref v), x1, x2, x3] st M P = zk_R sc d 217 504 [some (.ref v), x1, x2, x3] (.ref v :: st) M P := zk_R_nx um217 (rfl : zk_lk zm_217.2.2.2.2.2 503 = some (.aload_n 0)) rfl
set_option maxRecDepth 20000 in
theorem u217_504 {x0 x1 x2 : Option Value} {v : Int32} : zk_R sc d 217 504 [x0, x1, x2, some (.int v)] st M P = zk_R sc d 217 505 [x0, x1, x2, some (.int v)] (.int v :: st) M P := zk_R_nx um217 (rfl : zk_lk zm_217.2.2.2.2.2 504 = some (.iload_n 3)) rfl
set_option maxRecDepth 20000 in
theorem u217_505 {x0 x1 x2 x3 : Option Value} : zk_R sc d 217 505 [x0, x1, x2, x3] st M P = zk_R sc d 217 506 [x0, x1, x2, x3] (.int 2 :: st) M P := zr_iconst um217 (rfl : zk_lk zm_217.2.2.2.2.2 505 = some (.iconst 2)) (by decide)
set_option maxRecDepth 20000 in
theorem u217_506 {x0 x1 x2 x3 : Option Value} {v w : Int32} : zk_R sc d 217 506 [x0, x1, x2, x3] (.int w :: .int v :: st) M P = zk_R sc d 217 507 [x0, x1, x2, x3] (.int (v + w) :: st) M P := zk_R_nx um217 (rfl : zk_lk zm_217.2.2.2.2.2 506 = some (.iadd)) rfl
set_option maxRecDepth 20000 in
theorem u217_508 {x0 x1 x2 x3 : Option Value} {a0 : Nat} {a1 : Int32} {a2 : Int32} (h1 : a0 < M.1) (h2 : (zk_sh a0).1 = 0) (h3 : (zk_sh a0).2.1 = 0) : zk_R sc (d + 1) 217 508 [x0, x1, x2, x3] [.int a2, .int a1, .ref a0] M P = zk_R sc d 16 0 [some (.ref a0), some (.int a1), some (.int a2)] [] M (fun r M' => zk_R sc (d + 1) 217 511 [x0, x1, x2, x3] (r.toList ++ []) M' P) := zr_iv (as := [.int a1, .int a2]) (rest := []) um217 (rfl : zk_lk zm_217.2.2.2.2.2 508 = some (.invokevirtual 54)) rfl (rfl : zk_mt 16 = some zm_16) rfl rfl rfl rfl rfl h1 h2 h3
set_option maxRecDepth 20000 in
theorem u217_511 {x0 x1 x3 : Option Value} {v : Nat} : zk_R sc d 217 511 [x0, x1, some (.ref v), x3] st M P = zk_R sc d 217 512 [x0, x1, some (.ref v), x3] (.ref v :: st) M P := zk_R_nx um217 (rfl : zk_lk zm_217.2.2.2.2.2 511 = some (.aload_n 2)) rfl
set_option maxRecDepth 20000 in
theorem u217_512 {x1 x2 x3 : Option Value} {v : Nat} : zk_R sc d 217 512 [some (.ref v), x1, x2, x3] st M P = zk_R sc d 217 513 [some (.ref v), x1, x2, x3] (.ref v :: st) M P := zk_R_nx um217 (rfl : zk_lk zm_217.2.2.2.2.2 512 = some (.aload_n 0)) rfl
set_option maxRecDepth 20000 in
theorem u217_513 {x0 x1 x2 : Option Value} {v : Int32} : zk_R sc d 217 513 [x0, x1, x2, some (.int v)] st M P = zk_R sc d 217 514 [x0, x1, x2, some (.int v)] (.int v :: st) M P := zk_R_nx um217 (rfl : zk_lk zm_217.2.2.2.2.2 513 = some (.iload_n 3)) rfl
set_option maxRecDepth 20000 in
theorem u217_514 {x0 x1 x2 x3 : Option Value} : zk_R sc d 217 514 [x0, x1, x2, x3] st M P = zk_R sc d 217 515 [x0, x1, x2, x3] (.int 1 :: st) M P := zr_iconst um217 (rfl : zk_lk zm_217.2.2.2.2.2 514 = some (.iconst 1)) (by decide)
set_option maxRecDepth 20000 in
theorem u217_515 {x0 x1 x2 x3 : Option Value} {v w : Int32} : zk_R sc d 217 515 [x0, x1, x2, x3] (.int w :: .int v :: st) M P = zk_R sc d 217 516 [x0, x1, x2, x3] (.int (v + w) :: st) M P := zk_R_nx um217 (rfl : zk_lk zm_217.2.2.2.2.2 515 = some (.iadd)) rfl
set_option maxRecDepth 20000 in
theorem u217_517 {x1 x2 x3 : Option Value} {v : Nat} : zk_R sc d 217 517 [some (.ref v), x1, x2, x3] st M P = zk_R sc d 217 518 [some (.ref v), x1, x2, x3] (.ref v :: st) M P := zk_R_nx um217 (rfl : zk_lk zm_217.2.2.2.2.2 517 = some (.aload_n 0)) rfl
set_option maxRecDepth 20000 in
theorem u217_518 {x0 x1 x2 : Option Value} {v : Int32} : zk_R sc d 217 518 [x0, x1, x2, some (.int v)] st M P = zk_R sc d 217 519 [x0, x1, x2, some (.int v)] (.int v :: st) M P := zk_R_nx um217 (rfl : zk_lk zm_217.2.2.2.2.2 518 = some (.iload_n 3)) rfl
set_option maxRecDepth 20000 in
theorem u217_519 {x0 x1 x2 x3 : Option Value} : zk_R sc d 217 519 [x0, x1, x2, x3] st M P = zk_R sc d 217 520 [x0, x1, x2, x3] (.int 2 :: st) M P := zr_iconst um217 (rfl : zk_lk zm_217.2.2.2.2.2 519 = some (.iconst 2)) (by decide)
set_option maxRecDepth 20000 in
theorem u217_520 {x0 x1 x2 x3 : Option Value} {v w : Int32} : zk_R sc d 217 520 [x0, x1, x2, x3] (.int w :: .int v :: st) M P = zk_R sc d 217 521 [x0, x1, x2, x3] (.int (v + w) :: st) M P := zk_R_nx um217 (rfl : zk_lk zm_217.2.2.2.2.2 520 = some (.iadd)) rfl
set_option maxRecDepth 20000 in
theorem u217_522 {x0 x1 x2 x3 : Option Value} {a0 : Nat} {a1 : Int32} {a2 : Int32} {r0 : Int32} (h1 : a0 < M.1) (h2 : (zk_sh a0).1 = 0) (h3 : (zk_sh a0).2.1 = 6) : zk_R sc (d + 1) 217 522 [x0, x1, x2, x3] [.int a2, .int a1, .ref a0, .int r0] M P = zk_R sc d 159 0 [some (.ref a0), some (.int a1), some (.int a2)] [] M (fun r M' => zk_R sc (d + 1) 217 525 [x0, x1, x2, x3] (r.toList ++ [.int r0]) M' P) := zr_iv (as := [.int a1, .int a2]) (rest := [.int r0]) um217 (rfl : zk_lk zm_217.2.2.2.2.2 522 = some (.invokevirtual 57)) rfl (rfl : zk_mt 159 = some zm_159) rfl rfl rfl rfl rfl h1 h2 h3
set_option maxRecDepth 20000 in
theorem u217_525 {x0 x1 x2 x3 : Option Value} {x y : Int32} : zk_R sc d 217 525 [x0, x1, x2, x3] (.int y :: .int x :: st) M P = if x = y then zk_R sc d 217 1412 [x0, x1, x2, x3] st M P else zk_R sc d 217 528 [x0, x1, x2, x3] st M P := zr_ic_eq um217 (rfl : zk_lk zm_217.2.2.2.2.2 525 = some (.if_icmp .eq (887))) (by decide)
set_option maxRecDepth 20000 in
theorem u217_528 {x0 x1 x2 x3 : Option Value} : zk_R sc d 217 528 [x0, x1, x2, x3] st M P = zk_R sc d 217 529 [x0, x1, x2, x3] (.int 0 :: st) M P := zr_iconst um217 (rfl : zk_lk zm_217.2.2.2.2.2 528 = some (.iconst 0)) (by decide)
set_option maxRecDepth 20000 in
theorem u217_529 {x0 x1 x2 x3 : Option Value} {v : Int32} : zk_R sc d 217 529 [x0, x1, x2, x3] [.int v] M P = ((v = 0 ∨ v = 1) ∧ P (some (.int v)) M) := zr_retb um217 (rfl : zk_lk zm_217.2.2.2.2.2 529 = some (.ireturn)) rfl
set_option maxRecDepth 20000 in
theorem u217_530 {x0 x2 x3 : Option Value} {v : Nat} : zk_R sc d 217 530 [x0, some (.ref v), x2, x3] st M P = zk_R sc d 217 531 [x0, some (.ref v), x2, x3] (.ref v :: st) M P := zk_R_nx um217 (rfl : zk_lk zm_217.2.2.2.2.2 530 = some (.aload_n 1)) rfl
set_option maxRecDepth 20000 in
theorem u217_531 {x0 x1 x2 x3 : Option Value} {a0 : Nat} (h1 : a0 < M.1) (h2 : (zk_sh a0).1 = 0) (h3 : (zk_sh a0).2.1 = 0) : zk_R sc (d + 1) 217 531 [x0, x1, x2, x3] [.ref a0] M P = zk_R sc d 18 0 [some (.ref a0)] [] M (fun r M' => zk_R sc (d + 1) 217 534 [x0, x1, x2, x3] (r.toList ++ []) M' P) := zr_iv (as := []) (rest := []) um217 (rfl : zk_lk zm_217.2.2.2.2.2 531 = some (.invokevirtual 58)) rfl (rfl : zk_mt 18 = some zm_18) rfl rfl rfl rfl rfl h1 h2 h3
set_option maxRecDepth 20000 in
theorem u217_534 {x0 x1 x3 : Option Value} {v : Nat} : zk_R sc d 217 534 [x0, x1, some (.ref v), x3] st M P = zk_R sc d 217 535 [x0, x1, some (.ref v), x3] (.ref v :: st) M P := zk_R_nx um217 (rfl : zk_lk zm_217.2.2.2.2.2 534 = some (.aload_n 2)) rfl
set_option maxRecDepth 20000 in
theorem u217_535 {x0 x1 x2 x3 : Option Value} {a0 : Nat} {r0 : Int32} (h1 : a0 < M.1) (h2 : (zk_sh a0).1 = 0) (h3 : (zk_sh a0).2.1 = 6) : zk_R sc (d + 1) 217 535 [x0, x1, x2, x3] [.ref a0, .int r0] M P = zk_R sc d 164 0 [some (.ref a0)] [] M (fun r M' => zk_R sc (d + 1) 217 538 [x0, x1, x2, x3] (r.toList ++ [.int r0]) M' P) := zr_iv (as := []) (rest := [.int r0]) um217 (rfl : zk_lk zm_217.2.2.2.2.2 535 = some (.invokevirtual 61)) rfl (rfl : zk_mt 164 = some zm_164) rfl rfl rfl rfl rfl h1 h2 h3
set_option maxRecDepth 20000 in
theorem u217_538 {x0 x1 x2 x3 : Option Value} {x y : Int32} : zk_R sc d 217 538 [x0, x1, x2, x3] (.int y :: .int x :: st) M P = if x = y then zk_R sc d 217 1412 [x0, x1, x2, x3] st M P else zk_R sc d 217 541 [x0, x1, x2, x3] st M P := zr_ic_eq um217 (rfl : zk_lk zm_217.2.2.2.2.2 538 = some (.if_icmp .eq (874))) (by decide)
set_option maxRecDepth 20000 in
theorem u217_541 {x0 x1 x2 x3 : Option Value} : zk_R sc d 217 541 [x0, x1, x2, x3] st M P = zk_R sc d 217 542 [x0, x1, x2, x3] (.int 0 :: st) M P := zr_iconst um217 (rfl : zk_lk zm_217.2.2.2.2.2 541 = some (.iconst 0)) (by decide)
set_option maxRecDepth 20000 in
theorem u217_542 {x0 x1 x2 x3 : Option Value} {v : Int32} : zk_R sc d 217 542 [x0, x1, x2, x3] [.int v] M P = ((v = 0 ∨ v = 1) ∧ P (some (.int v)) M) := zr_retb um217 (rfl : zk_lk zm_217.2.2.2.2.2 542 = some (.ireturn)) rfl
set_option maxRecDepth 20000 in
theorem u217_543 {x0 x2 x3 : Option Value} {v : Nat} : zk_R sc d 217 543 [x0, some (.ref v), x2, x3] st M P = zk_R sc d 217 544 [x0, some (.ref v), x2, x3] (.ref v :: st) M P := zk_R_nx um217 (rfl : zk_lk zm_217.2.2.2.2.2 543 = some (.aload_n 1)) rfl
set_option maxRecDepth 20000 in
theorem u217_544 {x0 x1 x2 x3 : Option Value} {a0 : Nat} (h1 : a0 < M.1) (h2 : (zk_sh a0).1 = 0) (h3 : (zk_sh a0).2.1 = 0) : zk_R sc (d + 1) 217 544 [x0, x1, x2, x3] [.ref a0] M P = zk_R sc d 19 0 [some (.ref a0), none, none, none] [] M (fun r M' => zk_R sc (d + 1) 217 547 [x0, x1, x2, x3] (r.toList ++ []) M' P) := zr_iv (as := []) (rest := []) um217 (rfl : zk_lk zm_217.2.2.2.2.2 544 = some (.invokevirtual 62)) rfl (rfl : zk_mt 19 = some zm_19) rfl rfl rfl rfl rfl h1 h2 h3
set_option maxRecDepth 20000 in
theorem u217_547 {x0 x1 x3 : Option Value} {v : Nat} : zk_R sc d 217 547 [x0, x1, some (.ref v), x3] st M P = zk_R sc d 217 548 [x0, x1, some (.ref v), x3] (.ref v :: st) M P := zk_R_nx um217 (rfl : zk_lk zm_217.2.2.2.2.2 547 = some (.aload_n 2)) rfl
set_option maxRecDepth 20000 in
theorem u217_548 {x0 x1 x2 x3 : Option Value} {a0 : Nat} {r0 : Int32} (h1 : a0 < M.1) (h2 : (zk_sh a0).1 = 0) (h3 : (zk_sh a0).2.1 = 6) : zk_R sc (d + 1) 217 548 [x0, x1, x2, x3] [.ref a0, .int r0] M P = zk_R sc d 166 0 [some (.ref a0), none, none, none] [] M (fun r M' => zk_R sc (d + 1) 217 551 [x0, x1, x2, x3] (r.toList ++ [.int r0]) M' P) := zr_iv (as := []) (rest := [.int r0]) um217 (rfl : zk_lk zm_217.2.2.2.2.2 548 = some (.invokevirtual 65)) rfl (rfl : zk_mt 166 = some zm_166) rfl rfl rfl rfl rfl h1 h2 h3
set_option maxRecDepth 20000 in
theorem u217_551 {x0 x1 x2 x3 : Option Value} {x y : Int32} : zk_R sc d 217 551 [x0, x1, x2, x3] (.int y :: .int x :: st) M P = if x = y then zk_R sc d 217 1412 [x0, x1, x2, x3] st M P else zk_R sc d 217 554 [x0, x1, x2, x3] st M P := zr_ic_eq um217 (rfl : zk_lk zm_217.2.2.2.2.2 551 = some (.if_icmp .eq (861))) (by decide)
set_option maxRecDepth 20000 in
theorem u217_554 {x0 x1 x2 x3 : Option Value} : zk_R sc d 217 554 [x0, x1, x2, x3] st M P = zk_R sc d 217 555 [x0, x1, x2, x3] (.int 0 :: st) M P := zr_iconst um217 (rfl : zk_lk zm_217.2.2.2.2.2 554 = some (.iconst 0)) (by decide)
set_option maxRecDepth 20000 in
theorem u217_555 {x0 x1 x2 x3 : Option Value} {v : Int32} : zk_R sc d 217 555 [x0, x1, x2, x3] [.int v] M P = ((v = 0 ∨ v = 1) ∧ P (some (.int v)) M) := zr_retb um217 (rfl : zk_lk zm_217.2.2.2.2.2 555 = some (.ireturn)) rfl
set_option maxRecDepth 20000 in
theorem u217_556 {x0 x2 x3 : Option Value} {v : Nat} : zk_R sc d 217 556 [x0, some (.ref v), x2, x3] st M P = zk_R sc d 217 557 [x0, some (.ref v), x2, x3] (.ref v :: st) M P := zk_R_nx um217 (rfl : zk_lk zm_217.2.2.2.2.2 556 = some (.aload_n 1)) rfl
set_option maxRecDepth 20000 in
theorem u217_557 {x1 x2 x3 : Option Value} {v : Nat} : zk_R sc d 217 557 [some (.ref v), x1, x2, x3] st M P = zk_R sc d 217 558 [some (.ref v), x1, x2, x3] (.ref v :: st) M P := zk_R_nx um217 (rfl : zk_lk zm_217.2.2.2.2.2 557 = some (.aload_n 0)) rfl
set_option maxRecDepth 20000 in
theorem u217_558 {x0 x1 x2 : Option Value} {v : Int32} : zk_R sc d 217 558 [x0, x1, x2, some (.int v)] st M P = zk_R sc d 217 559 [x0, x1, x2, some (.int v)] (.int v :: st) M P := zk_R_nx um217 (rfl : zk_lk zm_217.2.2.2.2.2 558 = some (.iload_n 3)) rfl
set_option maxRecDepth 20000 in
theorem u217_559 {x0 x1 x2 x3 : Option Value} : zk_R sc d 217 559 [x0, x1, x2, x3] st M P = zk_R sc d 217 560 [x0, x1, x2, x3] (.int 1 :: st) M P := zr_iconst um217 (rfl : zk_lk zm_217.2.2.2.2.2 559 = some (.iconst 1)) (by decide)
set_option maxRecDepth 20000 in
theorem u217_560 {x0 x1 x2 x3 : Option Value} {v w : Int32} : zk_R sc d 217 560 [x0, x1, x2, x3] (.int w :: .int v :: st) M P = zk_R sc d 217 561 [x0, x1, x2, x3] (.int (v + w) :: st) M P := zk_R_nx um217 (rfl : zk_lk zm_217.2.2.2.2.2 560 = some (.iadd)) rfl
set_option maxRecDepth 20000 in
theorem u217_562 {x1 x2 x3 : Option Value} {v : Nat} : zk_R sc d 217 562 [some (.ref v), x1, x2, x3] st M P = zk_R sc d 217 563 [some (.ref v), x1, x2, x3] (.ref v :: st) M P := zk_R_nx um217 (rfl : zk_lk zm_217.2.2.2.2.2 562 = some (.aload_n 0)) rfl
set_option maxRecDepth 20000 in
theorem u217_563 {x0 x1 x2 : Option Value} {v : Int32} : zk_R sc d 217 563 [x0, x1, x2, some (.int v)] st M P = zk_R sc d 217 564 [x0, x1, x2, some (.int v)] (.int v :: st) M P := zk_R_nx um217 (rfl : zk_lk zm_217.2.2.2.2.2 563 = some (.iload_n 3)) rfl
set_option maxRecDepth 20000 in
theorem u217_564 {x0 x1 x2 x3 : Option Value} : zk_R sc d 217 564 [x0, x1, x2, x3] st M P = zk_R sc d 217 565 [x0, x1, x2, x3] (.int 2 :: st) M P := zr_iconst um217 (rfl : zk_lk zm_217.2.2.2.2.2 564 = some (.iconst 2)) (by decide)
set_option maxRecDepth 20000 in
theorem u217_565 {x0 x1 x2 x3 : Option Value} {v w : Int32} : zk_R sc d 217 565 [x0, x1, x2, x3] (.int w :: .int v :: st) M P = zk_R sc d 217 566 [x0, x1, x2, x3] (.int (v + w) :: st) M P := zk_R_nx um217 (rfl : zk_lk zm_217.2.2.2.2.2 565 = some (.iadd)) rfl
set_option maxRecDepth 20000 in
theorem u217_567 {x0 x1 x2 x3 : Option Value} {a0 : Nat} {a1 : Int32} {a2 : Int32} (h1 : a0 < M.1) (h2 : (zk_sh a0).1 = 0) (h3 : (zk_sh a0).2.1 = 0) : zk_R sc (d + 1) 217 567 [x0, x1, x2, x3] [.int a2, .int a1, .ref a0] M P = zk_R sc d 20 0 [some (.ref a0), some (.int a1), some (.int a2)] [] M (fun r M' => zk_R sc (d + 1) 217 570 [x0, x1, x2, x3] (r.toList ++ []) M' P) := zr_iv (as := [.int a1, .int a2]) (rest := []) um217 (rfl : zk_lk zm_217.2.2.2.2.2 567 = some (.invokevirtual 66)) rfl (rfl : zk_mt 20 = some zm_20) rfl rfl rfl rfl rfl h1 h2 h3
set_option maxRecDepth 20000 in
theorem u217_570 {x0 x1 x3 : Option Value} {v : Nat} : zk_R sc d 217 570 [x0, x1, some (.ref v), x3] st M P = zk_R sc d 217 571 [x0, x1, some (.ref v), x3] (.ref v :: st) M P := zk_R_nx um217 (rfl : zk_lk zm_217.2.2.2.2.2 570 = some (.aload_n 2)) rfl
set_option maxRecDepth 20000 in
theorem u217_571 {x1 x2 x3 : Option Value} {v : Nat} : zk_R sc d 217 571 [some (.ref v), x1, x2, x3] st M P = zk_R sc d 217 572 [some (.ref v), x1, x2, x3] (.ref v :: st) M P := zk_R_nx um217 (rfl : zk_lk zm_217.2.2.2.2.2 571 = some (.aload_n 0)) rfl
set_option maxRecDepth 20000 in
theorem u217_572 {x0 x1 x2 : Option Value} {v : Int32} : zk_R sc d 217 572 [x0, x1, x2, some (.int v)] st M P = zk_R sc d 217 573 [x0, x1, x2, some (.int v)] (.int v :: st) M P := zk_R_nx um217 (rfl : zk_lk zm_217.2.2.2.2.2 572 = some (.iload_n 3)) rfl
set_option maxRecDepth 20000 in
theorem u217_573 {x0 x1 x2 x3 : Option Value} : zk_R sc d 217 573 [x0, x1, x2, x3] st M P = zk_R sc d 217 574 [x0, x1, x2, x3] (.int 1 :: st) M P := zr_iconst um217 (rfl : zk_lk zm_217.2.2.2.2.2 573 = some (.iconst 1)) (by decide)
set_option maxRecDepth 20000 in
theorem u217_574 {x0 x1 x2 x3 : Option Value} {v w : Int32} : zk_R sc d 217 574 [x0, x1, x2, x3] (.int w :: .int v :: st) M P = zk_R sc d 217 575 [x0, x1, x2, x3] (.int (v + w) :: st) M P := zk_R_nx um217 (rfl : zk_lk zm_217.2.2.2.2.2 574 = some (.iadd)) rfl
set_option maxRecDepth 20000 in
theorem u217_576 {x1 x2 x3 : Option Value} {v : Nat} : zk_R sc d 217 576 [some (.ref v), x1, x2, x3] st M P = zk_R sc d 217 577 [some (.ref v), x1, x2, x3] (.ref v :: st) M P := zk_R_nx um217 (rfl : zk_lk zm_217.2.2.2.2.2 576 = some (.aload_n 0)) rfl
set_option maxRecDepth 20000 in
theorem u217_577 {x0 x1 x2 : Option Value} {v : Int32} : zk_R sc d 217 577 [x0, x1, x2, some (.int v)] st M P = zk_R sc d 217 578 [x0, x1, x2, some (.int v)] (.int v :: st) M P := zk_R_nx um217 (rfl : zk_lk zm_217.2.2.2.2.2 577 = some (.iload_n 3)) rfl
set_option maxRecDepth 20000 in
theorem u217_578 {x0 x1 x2 x3 : Option Value} : zk_R sc d 217 578 [x0, x1, x2, x3] st M P = zk_R sc d 217 579 [x0, x1, x2, x3] (.int 2 :: st) M P := zr_iconst um217 (rfl : zk_lk zm_217.2.2.2.2.2 578 = some (.iconst 2)) (by decide)
set_option maxRecDepth 20000 in
theorem u217_579 {x0 x1 x2 x3 : Option Value} {v w : Int32} : zk_R sc d 217 579 [x0, x1, x2, x3] (.int w :: .int v :: st) M P = zk_R sc d 217 580 [x0, x1, x2, x3] (.int (v + w) :: st) M P := zk_R_nx um217 (rfl : zk_lk zm_217.2.2.2.2.2 579 = some (.iadd)) rfl
set_option maxRecDepth 20000 in
theorem u217_581 {x0 x1 x2 x3 : Option Value} {a0 : Nat} {a1 : Int32} {a2 : Int32} {r0 : Int32} (h1 : a0 < M.1) (h2 : (zk_sh a0).1 = 0) (h3 : (zk_sh a0).2.1 = 6) : zk_R sc (d + 1) 217 581 [x0, x1, x2, x3] [.int a2, .int a1, .ref a0, .int r0] M P = zk_R sc d 167 0 [some (.ref a0), some (.int a1), some (.int a2), none, none, none, none, none, none, none, none] [] M (fun r M' => zk_R sc (d + 1) 217 584 [x0, x1, x2, x3] (r.toList ++ [.int r0]) M' P) := zr_iv (as := [.int a1, .int a2]) (rest := [.int r0]) um217 (rfl : zk_lk zm_217.2.2.2.2.2 581 = some (.invokevirtual 69)) rfl (rfl : zk_mt 167 = some zm_167) rfl rfl rfl rfl rfl h1 h2 h3
set_option maxRecDepth 20000 in
theorem u217_584 {x0 x1 x2 x3 : Option Value} {x y : Int32} : zk_R sc d 217 584 [x0, x1, x2, x3] (.int y :: .int x :: st) M P = if x = y then zk_R sc d 217 1412 [x0, x1, x2, x3] st M P else zk_R sc d 217 587 [x0, x1, x2, x3] st M P := zr_ic_eq um217 (rfl : zk_lk zm_217.2.2.2.2.2 584 = some (.if_icmp .eq (828))) (by decide)
set_option maxRecDepth 20000 in
theorem u217_587 {x0 x1 x2 x3 : Option Value} : zk_R sc d 217 587 [x0, x1, x2, x3] st M P = zk_R sc d 217 588 [x0, x1, x2, x3] (.int 0 :: st) M P := zr_iconst um217 (rfl : zk_lk zm_217.2.2.2.2.2 587 = some (.iconst 0)) (by decide)
set_option maxRecDepth 20000 in
theorem u217_588 {x0 x1 x2 x3 : Option Value} {v : Int32} : zk_R sc d 217 588 [x0, x1, x2, x3] [.int v] M P = ((v = 0 ∨ v = 1) ∧ P (some (.int v)) M) := zr_retb um217 (rfl : zk_lk zm_217.2.2.2.2.2 588 = some (.ireturn)) rfl
set_option maxRecDepth 20000 in
theorem u217_589 {x0 x2 x3 : Option Value} {v : Nat} : zk_R sc d 217 589 [x0, some (.ref v), x2, x3] st M P = zk_R sc d 217 590 [x0, some (.ref v), x2, x3] (.ref v :: st) M P := zk_R_nx um217 (rfl : zk_lk zm_217.2.2.2.2.2 589 = some (.aload_n 1)) rfl
set_option maxRecDepth 20000 in
theorem u217_590 {x1 x2 x3 : Option Value} {v : Nat} : zk_R sc d 217 590 [some (.ref v), x1, x2, x3] st M P = zk_R sc d 217 591 [some (.ref v), x1, x2, x3] (.ref v :: st) M P := zk_R_nx um217 (rfl : zk_lk zm_217.2.2.2.2.2 590 = some (.aload_n 0)) rfl
set_option maxRecDepth 20000 in
theorem u217_591 {x0 x1 x2 : Option Value} {v : Int32} : zk_R sc d 217 591 [x0, x1, x2, some (.int v)] st M P = zk_R sc d 217 592 [x0, x1, x2, some (.int v)] (.int v :: st) M P := zk_R_nx um217 (rfl : zk_lk zm_217.2.2.2.2.2 591 = some (.iload_n 3)) rfl
set_option maxRecDepth 20000 in
theorem u217_592 {x0 x1 x2 x3 : Option Value} : zk_R sc d 217 592 [x0, x1, x2, x3] st M P = zk_R sc d 217 593 [x0, x1, x2, x3] (.int 1 :: st) M P := zr_iconst um217 (rfl : zk_lk zm_217.2.2.2.2.2 592 = some (.iconst 1)) (by decide)
set_option maxRecDepth 20000 in
theorem u217_593 {x0 x1 x2 x3 : Option Value} {v w : Int32} : zk_R sc d 217 593 [x0, x1, x2, x3] (.int w :: .int v :: st) M P = zk_R sc d 217 594 [x0, x1, x2, x3] (.int (v + w) :: st) M P := zk_R_nx um217 (rfl : zk_lk zm_217.2.2.2.2.2 593 = some (.iadd)) rfl
set_option maxRecDepth 20000 in
theorem u217_595 {x0 x1 x2 x3 : Option Value} {a0 : Nat} {a1 : Int32} (h1 : a0 < M.1) (h2 : (zk_sh a0).1 = 0) (h3 : (zk_sh a0).2.1 = 0) : zk_R sc (d + 1) 217 595 [x0, x1, x2, x3] [.int a1, .ref a0] M P = zk_R sc d 22 0 [some (.ref a0), some (.int a1)] [] M (fun r M' => zk_R sc (d + 1) 217 598 [x0, x1, x2, x3] (r.toList ++ []) M' P) := zr_iv (as := [.int a1]) (rest := []) um217 (rfl : zk_lk zm_217.2.2.2.2.2 595 = some (.invokevirtual 70)) rfl (rfl : zk_mt 22 = some zm_22) rfl rfl rfl rfl rfl h1 h2 h3
set_option maxRecDepth 20000 in
theorem u217_598 {x0 x1 x3 : Option Value} {v : Nat} : zk_R sc d 217 598 [x0, x1, some (.ref v), x3] st M P = zk_R sc d 217 599 [x0, x1, some (.ref v), x3] (.ref v :: st) M P := zk_R_nx um217 (rfl : zk_lk zm_217.2.2.2.2.2 598 = some (.aload_n 2)) rfl
set_option maxRecDepth 20000 in
theorem u217_599 {x1 x2 x3 : Option Value} {v : Nat} : zk_R sc d 217 599 [some (.ref v), x1, x2, x3] st M P = zk_R sc d 217 600 [some (.ref v), x1, x2, x3] (.ref v :: st) M P := zk_R_nx um217 (rfl : zk_lk zm_217.2.2.2.2.2 599 = some (.aload_n 0)) rfl
set_option maxRecDepth 20000 in
theorem u217_600 {x0 x1 x2 : Option Value} {v : Int32} : zk_R sc d 217 600 [x0, x1, x2, some (.int v)] st M P = zk_R sc d 217 601 [x0, x1, x2, some (.int v)] (.int v :: st) M P := zk_R_nx um217 (rfl : zk_lk zm_217.2.2.2.2.2 600 = some (.iload_n 3)) rfl
set_option maxRecDepth 20000 in
theorem u217_601 {x0 x1 x2 x3 : Option Value} : zk_R sc d 217 601 [x0, x1, x2, x3] st M P = zk_R sc d 217 602 [x0, x1, x2, x3] (.int 1 :: st) M P := zr_iconst um217 (rfl : zk_lk zm_217.2.2.2.2.2 601 = some (.iconst 1)) (by decide)
set_option maxRecDepth 20000 in
theorem u217_602 {x0 x1 x2 x3 : Option Value} {v w : Int32} : zk_R sc d 217 602 [x0, x1, x2, x3] (.int w :: .int v :: st) M P = zk_R sc d 217 603 [x0, x1, x2, x3] (.int (v + w) :: st) M P := zk_R_nx um217 (rfl : zk_lk zm_217.2.2.2.2.2 602 = some (.iadd)) rfl
set_option maxRecDepth 20000 in
theorem u217_604 {x0 x1 x2 x3 : Option Value} {a0 : Nat} {a1 : Int32} {r0 : Int32} (h1 : a0 < M.1) (h2 : (zk_sh a0).1 = 0) (h3 : (zk_sh a0).2.1 = 6) : zk_R sc (d + 1) 217 604 [x0, x1, x2, x3] [.int a1, .ref a0, .int r0] M P = zk_R sc d 170 0 [some (.ref a0), some (.int a1), none, none, none, none, none, none, none, none] [] M (fun r M' => zk_R sc (d + 1) 217 607 [x0, x1, x2, x3] (r.toList ++ [.int r0]) M' P) := zr_iv (as := [.int a1]) (rest := [.int r0]) um217 (rfl : zk_lk zm_217.2.2.2.2.2 604 = some (.invokevirtual 73)) rfl (rfl : zk_mt 170 = some zm_170) rfl rfl rfl rfl rfl h1 h2 h3
set_option maxRecDepth 20000 in
theorem u217_607 {x0 x1 x2 x3 : Option Value} {x y : Int32} : zk_R sc d 217 607 [x0, x1, x2, x3] (.int y :: .int x :: st) M P = if x = y then zk_R sc d 217 1412 [x0, x1, x2, x3] st M P else zk_R sc d 217 610 [x0, x1, x2, x3] st M P := zr_ic_eq um217 (rfl : zk_lk zm_217.2.2.2.2.2 607 = some (.if_icmp .eq (805))) (by decide)
set_option maxRecDepth 20000 in
theorem u217_610 {x0 x1 x2 x3 : Option Value} : zk_R sc d 217 610 [x0, x1, x2, x3] st M P = zk_R sc d 217 611 [x0, x1, x2, x3] (.int 0 :: st) M P := zr_iconst um217 (rfl : zk_lk zm_217.2.2.2.2.2 610 = some (.iconst 0)) (by decide)
set_option maxRecDepth 20000 in
theorem u217_611 {x0 x1 x2 x3 : Option Value} {v : Int32} : zk_R sc d 217 611 [x0, x1, x2, x3] [.int v] M P = ((v = 0 ∨ v = 1) ∧ P (some (.int v)) M) := zr_retb um217 (rfl : zk_lk zm_217.2.2.2.2.2 611 = some (.ireturn)) rfl
set_option maxRecDepth 20000 in
theorem u217_612 {x0 x2 x3 : Option Value} {v : Nat} : zk_R sc d 217 612 [x0, some (.ref v), x2, x3] st M P = zk_R sc d 217 613 [x0, some (.ref v), x2, x3] (.ref v :: st) M P := zk_R_nx um217 (rfl : zk_lk zm_217.2.2.2.2.2 612 = some (.aload_n 1)) rfl
set_option maxRecDepth 20000 in
theorem u217_613 {x1 x2 x3 : Option Value} {v : Nat} : zk_R sc d 217 613 [some (.ref v), x1, x2, x3] st M P = zk_R sc d 217 614 [some (.ref v), x1, x2, x3] (.ref v :: st) M P := zk_R_nx um217 (rfl : zk_lk zm_217.2.2.2.2.2 613 = some (.aload_n 0)) rfl
set_option maxRecDepth 20000 in
theorem u217_614 {x0 x1 x2 : Option Value} {v : Int32} : zk_R sc d 217 614 [x0, x1, x2, some (.int v)] st M P = zk_R sc d 217 615 [x0, x1, x2, some (.int v)] (.int v :: st) M P := zk_R_nx um217 (rfl : zk_lk zm_217.2.2.2.2.2 614 = some (.iload_n 3)) rfl
set_option maxRecDepth 20000 in
theorem u217_615 {x0 x1 x2 x3 : Option Value} : zk_R sc d 217 615 [x0, x1, x2, x3] st M P = zk_R sc d 217 616 [x0, x1, x2, x3] (.int 1 :: st) M P := zr_iconst um217 (rfl : zk_lk zm_217.2.2.2.2.2 615 = some (.iconst 1)) (by decide)
set_option maxRecDepth 20000 in
theorem u217_616 {x0 x1 x2 x3 : Option Value} {v w : Int32} : zk_R sc d 217 616 [x0, x1, x2, x3] (.int w :: .int v :: st) M P = zk_R sc d 217 617 [x0, x1, x2, x3] (.int (v + w) :: st) M P := zk_R_nx um217 (rfl : zk_lk zm_217.2.2.2.2.2 616 = some (.iadd)) rfl
set_option maxRecDepth 20000 in
theorem u217_618 {x1 x2 x3 : Option Value} {v : Nat} : zk_R sc d 217 618 [some (.ref v), x1, x2, x3] st M P = zk_R sc d 217 619 [some (.ref v), x1, x2, x3] (.ref v :: st) M P := zk_R_nx um217 (rfl : zk_lk zm_217.2.2.2.2.2 618 = some (.aload_n 0)) rfl
set_option maxRecDepth 20000 in
theorem u217_619 {x0 x1 x2 : Option Value} {v : Int32} : zk_R sc d 217 619 [x0, x1, x2, some (.int v)] st M P = zk_R sc d 217 620 [x0, x1, x2, some (.int v)] (.int v :: st) M P := zk_R_nx um217 (rfl : zk_lk zm_217.2.2.2.2.2 619 = some (.iload_n 3)) rfl
set_option maxRecDepth 20000 in
theorem u217_620 {x0 x1 x2 x3 : Option Value} : zk_R sc d 217 620 [x0, x1, x2, x3] st M P = zk_R sc d 217 621 [x0, x1, x2, x3] (.int 2 :: st) M P := zr_iconst um217 (rfl : zk_lk zm_217.2.2.2.2.2 620 = some (.iconst 2)) (by decide)
set_option maxRecDepth 20000 in
theorem u217_621 {x0 x1 x2 x3 : Option Value} {v w : Int32} : zk_R sc d 217 621 [x0, x1, x2, x3] (.int w :: .int v :: st) M P = zk_R sc d 217 622 [x0, x1, x2, x3] (.int (v + w) :: st) M P := zk_R_nx um217 (rfl : zk_lk zm_217.2.2.2.2.2 621 = some (.iadd)) rfl
set_option maxRecDepth 20000 in
theorem u217_623 {x0 x1 x2 x3 : Option Value} {a0 : Nat} {a1 : Int32} {a2 : Int32} (h1 : a0 < M.1) (h2 : (zk_sh a0).1 = 0) (h3 : (zk_sh a0).2.1 = 0) : zk_R sc (d + 1) 217 623 [x0, x1, x2, x3] [.int a2, .int a1, .ref a0] M P = zk_R sc d 23 0 [some (.ref a0), some (.int a1), some (.int a2)] [] M (fun r M' => zk_R sc (d + 1) 217 626 [x0, x1, x2, x3] (r.toList ++ []) M' P) := zr_iv (as := [.int a1, .int a2]) (rest := []) um217 (rfl : zk_lk zm_217.2.2.2.2.2 623 = some (.invokevirtual 74)) rfl (rfl : zk_mt 23 = some zm_23) rfl rfl rfl rfl rfl h1 h2 h3
set_option maxRecDepth 20000 in
theorem u217_626 {x0 x1 x3 : Option Value} {v : Nat} : zk_R sc d 217 626 [x0, x1, some (.ref v), x3] st M P = zk_R sc d 217 627 [x0, x1, some (.ref v), x3] (.ref v :: st) M P := zk_R_nx um217 (rfl : zk_lk zm_217.2.2.2.2.2 626 = some (.aload_n 2)) rfl
set_option maxRecDepth 20000 in
theorem u217_627 {x1 x2 x3 : Option Value} {v : Nat} : zk_R sc d 217 627 [some (.ref v), x1, x2, x3] st M P = zk_R sc d 217 628 [some (.ref v), x1, x2, x3] (.ref v :: st) M P := zk_R_nx um217 (rfl : zk_lk zm_217.2.2.2.2.2 627 = some (.aload_n 0)) rfl
set_option maxRecDepth 20000 in
theorem u217_628 {x0 x1 x2 : Option Value} {v : Int32} : zk_R sc d 217 628 [x0, x1, x2, some (.int v)] st M P = zk_R sc d 217 629 [x0, x1, x2, some (.int v)] (.int v :: st) M P := zk_R_nx um217 (rfl : zk_lk zm_217.2.2.2.2.2 628 = some (.iload_n 3)) rfl
set_option maxRecDepth 20000 in
theorem u217_629 {x0 x1 x2 x3 : Option Value} : zk_R sc d 217 629 [x0, x1, x2, x3] st M P = zk_R sc d 217 630 [x0, x1, x2, x3] (.int 1 :: st) M P := zr_iconst um217 (rfl : zk_lk zm_217.2.2.2.2.2 629 = some (.iconst 1)) (by decide)
set_option maxRecDepth 20000 in
theorem u217_630 {x0 x1 x2 x3 : Option Value} {v w : Int32} : zk_R sc d 217 630 [x0, x1, x2, x3] (.int w :: .int v :: st) M P = zk_R sc d 217 631 [x0, x1, x2, x3] (.int (v + w) :: st) M P := zk_R_nx um217 (rfl : zk_lk zm_217.2.2.2.2.2 630 = some (.iadd)) rfl
set_option maxRecDepth 20000 in
theorem u217_632 {x1 x2 x3 : Option Value} {v : Nat} : zk_R sc d 217 632 [some (.ref v), x1, x2, x3] st M P = zk_R sc d 217 633 [some (.ref v), x1, x2, x3] (.ref v :: st) M P := zk_R_nx um217 (rfl : zk_lk zm_217.2.2.2.2.2 632 = some (.aload_n 0)) rfl
set_option maxRecDepth 20000 in
theorem u217_633 {x0 x1 x2 : Option Value} {v : Int32} : zk_R sc d 217 633 [x0, x1, x2, some (.int v)] st M P = zk_R sc d 217 634 [x0, x1, x2, some (.int v)] (.int v :: st) M P := zk_R_nx um217 (rfl : zk_lk zm_217.2.2.2.2.2 633 = some (.iload_n 3)) rfl
set_option maxRecDepth 20000 in
theorem u217_634 {x0 x1 x2 x3 : Option Value} : zk_R sc d 217 634 [x0, x1, x2, x3] st M P = zk_R sc d 217 635 [x0, x1, x2, x3] (.int 2 :: st) M P := zr_iconst um217 (rfl : zk_lk zm_217.2.2.2.2.2 634 = some (.iconst 2)) (by decide)
set_option maxRecDepth 20000 in
theorem u217_635 {x0 x1 x2 x3 : Option Value} {v w : Int32} : zk_R sc d 217 635 [x0, x1, x2, x3] (.int w :: .int v :: st) M P = zk_R sc d 217 636 [x0, x1, x2, x3] (.int (v + w) :: st) M P := zk_R_nx um217 (rfl : zk_lk zm_217.2.2.2.2.2 635 = some (.iadd)) rfl
set_option maxRecDepth 20000 in
theorem u217_637 {x0 x1 x2 x3 : Option Value} {a0 : Nat} {a1 : Int32} {a2 : Int32} {r0 : Int32} (h1 : a0 < M.1) (h2 : (zk_sh a0).1 = 0) (h3 : (zk_sh a0).2.1 = 6) : zk_R sc (d + 1) 217 637 [x0, x1, x2, x3] [.int a2, .int a1, .ref a0, .int r0] M P = zk_R sc d 171 0 [some (.ref a0), some (.int a1), some (.int a2), none, none, none, none, none, none, none, none, none] [] M (fun r M' => zk_R sc (d + 1) 217 640 [x0, x1, x2, x3] (r.toList ++ [.int r0]) M' P) := zr_iv (as := [.int a1, .int a2]) (rest := [.int r0]) um217 (rfl : zk_lk zm_217.2.2.2.2.2 637 = some (.invokevirtual 77)) rfl (rfl : zk_mt 171 = some zm_171) rfl rfl rfl rfl rfl h1 h2 h3
set_option maxRecDepth 20000 in
theorem u217_640 {x0 x1 x2 x3 : Option Value} {x y : Int32} : zk_R sc d 217 640 [x0, x1, x2, x3] (.int y :: .int x :: st) M P = if x = y then zk_R sc d 217 1412 [x0, x1, x2, x3] st M P else zk_R sc d 217 643 [x0, x1, x2, x3] st M P := zr_ic_eq um217 (rfl : zk_lk zm_217.2.2.2.2.2 640 = some (.if_icmp .eq (772))) (by decide)
set_option maxRecDepth 20000 in
theorem u217_643 {x0 x1 x2 x3 : Option Value} : zk_R sc d 217 643 [x0, x1, x2, x3] st M P = zk_R sc d 217 644 [x0, x1, x2, x3] (.int 0 :: st) M P := zr_iconst um217 (rfl : zk_lk zm_217.2.2.2.2.2 643 = some (.iconst 0)) (by decide)
set_option maxRecDepth 20000 in
theorem u217_644 {x0 x1 x2 x3 : Option Value} {v : Int32} : zk_R sc d 217 644 [x0, x1, x2, x3] [.int v] M P = ((v = 0 ∨ v = 1) ∧ P (some (.int v)) M) := zr_retb um217 (rfl : zk_lk zm_217.2.2.2.2.2 644 = some (.ireturn)) rfl
set_option maxRecDepth 20000 in
theorem u217_645 {x0 x2 x3 : Option Value} {v : Nat} : zk_R sc d 217 645 [x0, some (.ref v), x2, x3] st M P = zk_R sc d 217 646 [x0, some (.ref v), x2, x3] (.ref v :: st) M P := zk_R_nx um217 (rfl : zk_lk zm_217.2.2.2.2.2 645 = some (.aload_n 1)) rfl
set_option maxRecDepth 20000 in
theorem u217_646 {x1 x2 x3 : Option Value} {v : Nat} : zk_R sc d 217 646 [some (.ref v), x1, x2, x3] st M P = zk_R sc d 217 647 [some (.ref v), x1, x2, x3] (.ref v :: st) M P := zk_R_nx um217 (rfl : zk_lk zm_217.2.2.2.2.2 646 = some (.aload_n 0)) rfl
set_option maxRecDepth 20000 in
theorem u217_647 {x0 x1 x2 : Option Value} {v : Int32} : zk_R sc d 217 647 [x0, x1, x2, some (.int v)] st M P = zk_R sc d 217 648 [x0, x1, x2, some (.int v)] (.int v :: st) M P := zk_R_nx um217 (rfl : zk_lk zm_217.2.2.2.2.2 647 = some (.iload_n 3)) rfl
set_option maxRecDepth 20000 in
theorem u217_648 {x0 x1 x2 x3 : Option Value} : zk_R sc d 217 648 [x0, x1, x2, x3] st M P = zk_R sc d 217 649 [x0, x1, x2, x3] (.int 1 :: st) M P := zr_iconst um217 (rfl : zk_lk zm_217.2.2.2.2.2 648 = some (.iconst 1)) (by decide)
set_option maxRecDepth 20000 in
theorem u217_649 {x0 x1 x2 x3 : Option Value} {v w : Int32} : zk_R sc d 217 649 [x0, x1, x2, x3] (.int w :: .int v :: st) M P = zk_R sc d 217 650 [x0, x1, x2, x3] (.int (v + w) :: st) M P := zk_R_nx um217 (rfl : zk_lk zm_217.2.2.2.2.2 649 = some (.iadd)) rfl
set_option maxRecDepth 20000 in
theorem u217_651 {x0 x1 x2 x3 : Option Value} {a0 : Nat} {a1 : Int32} (h1 : a0 < M.1) (h2 : (zk_sh a0).1 = 0) (h3 : (zk_sh a0).2.1 = 0) : zk_R sc (d + 1) 217 651 [x0, x1, x2, x3] [.int a1, .ref a0] M P = zk_R sc d 24 0 [some (.ref a0), some (.int a1)] [] M (fun r M' => zk_R sc (d + 1) 217 654 [x0, x1, x2, x3] (r.toList ++ []) M' P) := zr_iv (as := [.int a1]) (rest := []) um217 (rfl : zk_lk zm_217.2.2.2.2.2 651 = some (.invokevirtual 78)) rfl (rfl : zk_mt 24 = some zm_24) rfl rfl rfl rfl rfl h1 h2 h3
set_option maxRecDepth 20000 in
theorem u217_654 {x0 x1 x3 : Option Value} {v : Nat} : zk_R sc d 217 654 [x0, x1, some (.ref v), x3] st M P = zk_R sc d 217 655 [x0, x1, some (.ref v), x3] (.ref v :: st) M P := zk_R_nx um217 (rfl : zk_lk zm_217.2.2.2.2.2 654 = some (.aload_n 2)) rfl
set_option maxRecDepth 20000 in
theorem u217_655 {x1 x2 x3 : Option Value} {v : Nat} : zk_R sc d 217 655 [some (.ref v), x1, x2, x3] st M P = zk_R sc d 217 656 [some (.ref v), x1, x2, x3] (.ref v :: st) M P := zk_R_nx um217 (rfl : zk_lk zm_217.2.2.2.2.2 655 = some (.aload_n 0)) rfl
set_option maxRecDepth 20000 in
theorem u217_656 {x0 x1 x2 : Option Value} {v : Int32} : zk_R sc d 217 656 [x0, x1, x2, some (.int v)] st M P = zk_R sc d 217 657 [x0, x1, x2, some (.int v)] (.int v :: st) M P := zk_R_nx um217 (rfl : zk_lk zm_217.2.2.2.2.2 656 = some (.iload_n 3)) rfl
set_option maxRecDepth 20000 in
theorem u217_657 {x0 x1 x2 x3 : Option Value} : zk_R sc d 217 657 [x0, x1, x2, x3] st M P = zk_R sc d 217 658 [x0, x1, x2, x3] (.int 1 :: st) M P := zr_iconst um217 (rfl : zk_lk zm_217.2.2.2.2.2 657 = some (.iconst 1)) (by decide)
set_option maxRecDepth 20000 in
theorem u217_658 {x0 x1 x2 x3 : Option Value} {v w : Int32} : zk_R sc d 217 658 [x0, x1, x2, x3] (.int w :: .int v :: st) M P = zk_R sc d 217 659 [x0, x1, x2, x3] (.int (v + w) :: st) M P := zk_R_nx um217 (rfl : zk_lk zm_217.2.2.2.2.2 658 = some (.iadd)) rfl
set_option maxRecDepth 20000 in
theorem u217_660 {x0 x1 x2 x3 : Option Value} {a0 : Nat} {a1 : Int32} {r0 : Int32} (h1 : a0 < M.1) (h2 : (zk_sh a0).1 = 0) (h3 : (zk_sh a0).2.1 = 6) : zk_R sc (d + 1) 217 660 [x0, x1, x2, x3] [.int a1, .ref a0, .int r0] M P = zk_R sc d 173 0 [some (.ref a0), some (.int a1), none, none, none, none, none, none, none] [] M (fun r M' => zk_R sc (d + 1) 217 663 [x0, x1, x2, x3] (r.toList ++ [.int r0]) M' P) := zr_iv (as := [.int a1]) (rest := [.int r0]) um217 (rfl : zk_lk zm_217.2.2.2.2.2 660 = some (.invokevirtual 81)) rfl (rfl : zk_mt 173 = some zm_173) rfl rfl rfl rfl rfl h1 h2 h3
set_option maxRecDepth 20000 in
theorem u217_663 {x0 x1 x2 x3 : Option Value} {x y : Int32} : zk_R sc d 217 663 [x0, x1, x2, x3] (.int y :: .int x :: st) M P = if x = y then zk_R sc d 217 1412 [x0, x1, x2, x3] st M P else zk_R sc d 217 666 [x0, x1, x2, x3] st M P := zr_ic_eq um217 (rfl : zk_lk zm_217.2.2.2.2.2 663 = some (.if_icmp .eq (749))) (by decide)
set_option maxRecDepth 20000 in
theorem u217_666 {x0 x1 x2 x3 : Option Value} : zk_R sc d 217 666 [x0, x1, x2, x3] st M P = zk_R sc d 217 667 [x0, x1, x2, x3] (.int 0 :: st) M P := zr_iconst um217 (rfl : zk_lk zm_217.2.2.2.2.2 666 = some (.iconst 0)) (by decide)
set_option maxRecDepth 20000 in
theorem u217_667 {x0 x1 x2 x3 : Option Value} {v : Int32} : zk_R sc d 217 667 [x0, x1, x2, x3] [.int v] M P = ((v = 0 ∨ v = 1) ∧ P (some (.int v)) M) := zr_retb um217 (rfl : zk_lk zm_217.2.2.2.2.2 667 = some (.ireturn)) rfl
set_option maxRecDepth 20000 in
theorem u217_668 {x0 x2 x3 : Option Value} {v : Nat} : zk_R sc d 217 668 [x0, some (.ref v), x2, x3] st M P = zk_R sc d 217 669 [x0, some (.ref v), x2, x3] (.ref v :: st) M P := zk_R_nx um217 (rfl : zk_lk zm_217.2.2.2.2.2 668 = some (.aload_n 1)) rfl
set_option maxRecDepth 20000 in
theorem u217_669 {x1 x2 x3 : Option Value} {v : Nat} : zk_R sc d 217 669 [some (.ref v), x1, x2, x3] st M P = zk_R sc d 217 670 [some (.ref v), x1, x2, x3] (.ref v :: st) M P := zk_R_nx um217 (rfl : zk_lk zm_217.2.2.2.2.2 669 = some (.aload_n 0)) rfl
set_option maxRecDepth 20000 in
theorem u217_670 {x0 x1 x2 : Option Value} {v : Int32} : zk_R sc d 217 670 [x0, x1, x2, some (.int v)] st M P = zk_R sc d 217 671 [x0, x1, x2, some (.int v)] (.int v :: st) M P := zk_R_nx um217 (rfl : zk_lk zm_217.2.2.2.2.2 670 = some (.iload_n 3)) rfl
set_option maxRecDepth 20000 in
theorem u217_671 {x0 x1 x2 x3 : Option Value} : zk_R sc d 217 671 [x0, x1, x2, x3] st M P = zk_R sc d 217 672 [x0, x1, x2, x3] (.int 1 :: st) M P := zr_iconst um217 (rfl : zk_lk zm_217.2.2.2.2.2 671 = some (.iconst 1)) (by decide)
set_option maxRecDepth 20000 in
theorem u217_672 {x0 x1 x2 x3 : Option Value} {v w : Int32} : zk_R sc d 217 672 [x0, x1, x2, x3] (.int w :: .int v :: st) M P = zk_R sc d 217 673 [x0, x1, x2, x3] (.int (v + w) :: st) M P := zk_R_nx um217 (rfl : zk_lk zm_217.2.2.2.2.2 672 = some (.iadd)) rfl
set_option maxRecDepth 20000 in
theorem u217_674 {x0 x1 x2 x3 : Option Value} {a0 : Nat} {a1 : Int32} (h1 : a0 < M.1) (h2 : (zk_sh a0).1 = 0) (h3 : (zk_sh a0).2.1 = 0) : zk_R sc (d + 1) 217 674 [x0, x1, x2, x3] [.int a1, .ref a0] M P = zk_R sc d 25 0 [some (.ref a0), some (.int a1)] [] M (fun r M' => zk_R sc (d + 1) 217 677 [x0, x1, x2, x3] (r.toList ++ []) M' P) := zr_iv (as := [.int a1]) (rest := []) um217 (rfl : zk_lk zm_217.2.2.2.2.2 674 = some (.invokevirtual 82)) rfl (rfl : zk_mt 25 = some zm_25) rfl rfl rfl rfl rfl h1 h2 h3
set_option maxRecDepth 20000 in
theorem u217_677 {x0 x1 x3 : Option Value} {v : Nat} : zk_R sc d 217 677 [x0, x1, some (.ref v), x3] st M P = zk_R sc d 217 678 [x0, x1, some (.ref v), x3] (.ref v :: st) M P := zk_R_nx um217 (rfl : zk_lk zm_217.2.2.2.2.2 677 = some (.aload_n 2)) rfl
set_option maxRecDepth 20000 in
theorem u217_678 {x1 x2 x3 : Option Value} {v : Nat} : zk_R sc d 217 678 [some (.ref v), x1, x2, x3] st M P = zk_R sc d 217 679 [some (.ref v), x1, x2, x3] (.ref v :: st) M P := zk_R_nx um217 (rfl : zk_lk zm_217.2.2.2.2.2 678 = some (.aload_n 0)) rfl
set_option maxRecDepth 20000 in
theorem u217_679 {x0 x1 x2 : Option Value} {v : Int32} : zk_R sc d 217 679 [x0, x1, x2, some (.int v)] st M P = zk_R sc d 217 680 [x0, x1, x2, some (.int v)] (.int v :: st) M P := zk_R_nx um217 (rfl : zk_lk zm_217.2.2.2.2.2 679 = some (.iload_n 3)) rfl
set_option maxRecDepth 20000 in
theorem u217_680 {x0 x1 x2 x3 : Option Value} : zk_R sc d 217 680 [x0, x1, x2, x3] st M P = zk_R sc d 217 681 [x0, x1, x2, x3] (.int 1 :: st) M P := zr_iconst um217 (rfl : zk_lk zm_217.2.2.2.2.2 680 = some (.iconst 1)) (by decide)
set_option maxRecDepth 20000 in
theorem u217_681 {x0 x1 x2 x3 : Option Value} {v w : Int32} : zk_R sc d 217 681 [x0, x1, x2, x3] (.int w :: .int v :: st) M P = zk_R sc d 217 682 [x0, x1, x2, x3] (.int (v + w) :: st) M P := zk_R_nx um217 (rfl : zk_lk zm_217.2.2.2.2.2 681 = some (.iadd)) rfl
set_option maxRecDepth 20000 in
theorem u217_683 {x0 x1 x2 x3 : Option Value} {a0 : Nat} {a1 : Int32} {r0 : Int32} (h1 : a0 < M.1) (h2 : (zk_sh a0).1 = 0) (h3 : (zk_sh a0).2.1 = 6) : zk_R sc (d + 1) 217 683 [x0, x1, x2, x3] [.int a1, .ref a0, .int r0] M P = zk_R sc d 175 0 [some (.ref a0), some (.int a1), none, none, none, none, none, none] [] M (fun r M' => zk_R sc (d + 1) 217 686 [x0, x1, x2, x3] (r.toList ++ [.int r0]) M' P) := zr_iv (as := [.int a1]) (rest := [.int r0]) um217 (rfl : zk_lk zm_217.2.2.2.2.2 683 = some (.invokevirtual 85)) rfl (rfl : zk_mt 175 = some zm_175) rfl rfl rfl rfl rfl h1 h2 h3
set_option maxRecDepth 20000 in
theorem u217_686 {x0 x1 x2 x3 : Option Value} {x y : Int32} : zk_R sc d 217 686 [x0, x1, x2, x3] (.int y :: .int x :: st) M P = if x = y then zk_R sc d 217 1412 [x0, x1, x2, x3] st M P else zk_R sc d 217 689 [x0, x1, x2, x3] st M P := zr_ic_eq um217 (rfl : zk_lk zm_217.2.2.2.2.2 686 = some (.if_icmp .eq (726))) (by decide)
set_option maxRecDepth 20000 in
theorem u217_689 {x0 x1 x2 x3 : Option Value} : zk_R sc d 217 689 [x0, x1, x2, x3] st M P = zk_R sc d 217 690 [x0, x1, x2, x3] (.int 0 :: st) M P := zr_iconst um217 (rfl : zk_lk zm_217.2.2.2.2.2 689 = some (.iconst 0)) (by decide)
set_option maxRecDepth 20000 in
theorem u217_690 {x0 x1 x2 x3 : Option Value} {v : Int32} : zk_R sc d 217 690 [x0, x1, x2, x3] [.int v] M P = ((v = 0 ∨ v = 1) ∧ P (some (.int v)) M) := zr_retb um217 (rfl : zk_lk zm_217.2.2.2.2.2 690 = some (.ireturn)) rfl
set_option maxRecDepth 20000 in
theorem u217_691 {x0 x2 x3 : Option Value} {v : Nat} : zk_R sc d 217 691 [x0, some (.ref v), x2, x3] st M P = zk_R sc d 217 692 [x0, some (.ref v), x2, x3] (.ref v :: st) M P := zk_R_nx um217 (rfl : zk_lk zm_217.2.2.2.2.2 691 = some (.aload_n 1)) rfl
set_option maxRecDepth 20000 in
theorem u217_692 {x1 x2 x3 : Option Value} {v : Nat} : zk_R sc d 217 692 [some (.ref v), x1, x2, x3] st M P = zk_R sc d 217 693 [some (.ref v), x1, x2, x3] (.ref v :: st) M P := zk_R_nx um217 (rfl : zk_lk zm_217.2.2.2.2.2 692 = some (.aload_n 0)) rfl
set_option maxRecDepth 20000 in
theorem u217_693 {x0 x1 x2 : Option Value} {v : Int32} : zk_R sc d 217 693 [x0, x1, x2, some (.int v)] st M P = zk_R sc d 217 694 [x0, x1, x2, some (.int v)] (.int v :: st) M P := zk_R_nx um217 (rfl : zk_lk zm_217.2.2.2.2.2 693 = some (.iload_n 3)) rfl
set_option maxRecDepth 20000 in
theorem u217_694 {x0 x1 x2 x3 : Option Value} : zk_R sc d 217 694 [x0, x1, x2, x3] st M P = zk_R sc d 217 695 [x0, x1, x2, x3] (.int 1 :: st) M P := zr_iconst um217 (rfl : zk_lk zm_217.2.2.2.2.2 694 = some (.iconst 1)) (by decide)
set_option maxRecDepth 20000 in
theorem u217_695 {x0 x1 x2 x3 : Option Value} {v w : Int32} : zk_R sc d 217 695 [x0, x1, x2, x3] (.int w :: .int v :: st) M P = zk_R sc d 217 696 [x0, x1, x2, x3] (.int (v + w) :: st) M P := zk_R_nx um217 (rfl : zk_lk zm_217.2.2.2.2.2 695 = some (.iadd)) rfl
set_option maxRecDepth 20000 in
theorem u217_697 {x1 x2 x3 : Option Value} {v : Nat} : zk_R sc d 217 697 [some (.ref v), x1, x2, x3] st M P = zk_R sc d 217 698 [some (.ref v), x1, x2, x3] (.ref v :: st) M P := zk_R_nx um217 (rfl : zk_lk zm_217.2.2.2.2.2 697 = some (.aload_n 0)) rfl
set_option maxRecDepth 20000 in
theorem u217_698 {x0 x1 x2 : Option Value} {v : Int32} : zk_R sc d 217 698 [x0, x1, x2, some (.int v)] st M P = zk_R sc d 217 699 [x0, x1, x2, some (.int v)] (.int v :: st) M P := zk_R_nx um217 (rfl : zk_lk zm_217.2.2.2.2.2 698 = some (.iload_n 3)) rfl
set_option maxRecDepth 20000 in
theorem u217_699 {x0 x1 x2 x3 : Option Value} : zk_R sc d 217 699 [x0, x1, x2, x3] st M P = zk_R sc d 217 700 [x0, x1, x2, x3] (.int 2 :: st) M P := zr_iconst um217 (rfl : zk_lk zm_217.2.2.2.2.2 699 = some (.iconst 2)) (by decide)
set_option maxRecDepth 20000 in
theorem u217_700 {x0 x1 x2 x3 : Option Value} {v w : Int32} : zk_R sc d 217 700 [x0, x1, x2, x3] (.int w :: .int v :: st) M P = zk_R sc d 217 701 [x0, x1, x2, x3] (.int (v + w) :: st) M P := zk_R_nx um217 (rfl : zk_lk zm_217.2.2.2.2.2 700 = some (.iadd)) rfl
set_option maxRecDepth 20000 in
theorem u217_702 {x0 x1 x2 x3 : Option Value} {a0 : Nat} {a1 : Int32} {a2 : Int32} (h1 : a0 < M.1) (h2 : (zk_sh a0).1 = 0) (h3 : (zk_sh a0).2.1 = 0) : zk_R sc (d + 1) 217 702 [x0, x1, x2, x3] [.int a2, .int a1, .ref a0] M P = zk_R sc d 28 0 [some (.ref a0), some (.int a1), some (.int a2)] [] M (fun r M' => zk_R sc (d + 1) 217 705 [x0, x1, x2, x3] (r.toList ++ []) M' P) := zr_iv (as := [.int a1, .int a2]) (rest := []) um217 (rfl : zk_lk zm_217.2.2.2.2.2 702 = some (.invokevirtual 86)) rfl (rfl : zk_mt 28 = some zm_28) rfl rfl rfl rfl rfl h1 h2 h3
set_option maxRecDepth 20000 in
theorem u217_705 {x0 x1 x3 : Option Value} {v : Nat} : zk_R sc d 217 705 [x0, x1, some (.ref v), x3] st M P = zk_R sc d 217 706 [x0, x1, some (.ref v), x3] (.ref v :: st) M P := zk_R_nx um217 (rfl : zk_lk zm_217.2.2.2.2.2 705 = some (.aload_n 2)) rfl
set_option maxRecDepth 20000 in
theorem u217_706 {x1 x2 x3 : Option Value} {v : Nat} : zk_R sc d 217 706 [some (.ref v), x1, x2, x3] st M P = zk_R sc d 217 707 [some (.ref v), x1, x2, x3] (.ref v :: st) M P := zk_R_nx um217 (rfl : zk_lk zm_217.2.2.2.2.2 706 = some (.aload_n 0)) rfl
set_option maxRecDepth 20000 in
theorem u217_707 {x0 x1 x2 : Option Value} {v : Int32} : zk_R sc d 217 707 [x0, x1, x2, some (.int v)] st M P = zk_R sc d 217 708 [x0, x1, x2, some (.int v)] (.int v :: st) M P := zk_R_nx um217 (rfl : zk_lk zm_217.2.2.2.2.2 707 = some (.iload_n 3)) rfl
set_option maxRecDepth 20000 in
theorem u217_708 {x0 x1 x2 x3 : Option Value} : zk_R sc d 217 708 [x0, x1, x2, x3] st M P = zk_R sc d 217 709 [x0, x1, x2, x3] (.int 1 :: st) M P := zr_iconst um217 (rfl : zk_lk zm_217.2.2.2.2.2 708 = some (.iconst 1)) (by decide)
set_option maxRecDepth 20000 in
theorem u217_709 {x0 x1 x2 x3 : Option Value} {v w : Int32} : zk_R sc d 217 709 [x0, x1, x2, x3] (.int w :: .int v :: st) M P = zk_R sc d 217 710 [x0, x1, x2, x3] (.int (v + w) :: st) M P := zk_R_nx um217 (rfl : zk_lk zm_217.2.2.2.2.2 709 = some (.iadd)) rfl
set_option maxRecDepth 20000 in
theorem u217_711 {x1 x2 x3 : Option Value} {v : Nat} : zk_R sc d 217 711 [some (.ref v), x1, x2, x3] st M P = zk_R sc d 217 712 [some (.ref v), x1, x2, x3] (.ref v :: st) M P := zk_R_nx um217 (rfl : zk_lk zm_217.2.2.2.2.2 711 = some (.aload_n 0)) rfl
set_option maxRecDepth 20000 in
theorem u217_712 {x0 x1 x2 : Option Value} {v : Int32} : zk_R sc d 217 712 [x0, x1, x2, some (.int v)] st M P = zk_R sc d 217 713 [x0, x1, x2, some (.int v)] (.int v :: st) M P := zk_R_nx um217 (rfl : zk_lk zm_217.2.2.2.2.2 712 = some (.iload_n 3)) rfl
set_option maxRecDepth 20000 in
theorem u217_713 {x0 x1 x2 x3 : Option Value} : zk_R sc d 217 713 [x0, x1, x2, x3] st M P = zk_R sc d 217 714 [x0, x1, x2, x3] (.int 2 :: st) M P := zr_iconst um217 (rfl : zk_lk zm_217.2.2.2.2.2 713 = some (.iconst 2)) (by decide)
set_option maxRecDepth 20000 in
theorem u217_714 {x0 x1 x2 x3 : Option Value} {v w : Int32} : zk_R sc d 217 714 [x0, x1, x2, x3] (.int w :: .int v :: st) M P = zk_R sc d 217 715 [x0, x1, x2, x3] (.int (v + w) :: st) M P := zk_R_nx um217 (rfl : zk_lk zm_217.2.2.2.2.2 714 = some (.iadd)) rfl
set_option maxRecDepth 20000 in
theorem u217_716 {x0 x1 x2 x3 : Option Value} {a0 : Nat} {a1 : Int32} {a2 : Int32} {r0 : Int32} (h1 : a0 < M.1) (h2 : (zk_sh a0).1 = 0) (h3 : (zk_sh a0).2.1 = 6) : zk_R sc (d + 1) 217 716 [x0, x1, x2, x3] [.int a2, .int a1, .ref a0, .int r0] M P = zk_R sc d 177 0 [some (.ref a0), some (.int a1), some (.int a2), none, none, none, none, none, none, none, none, none, none] [] M (fun r M' => zk_R sc (d + 1) 217 719 [x0, x1, x2, x3] (r.toList ++ [.int r0]) M' P) := zr_iv (as := [.int a1, .int a2]) (rest := [.int r0]) um217 (rfl : zk_lk zm_217.2.2.2.2.2 716 = some (.invokevirtual 89)) rfl (rfl : zk_mt 177 = some zm_177) rfl rfl rfl rfl rfl h1 h2 h3
set_option maxRecDepth 20000 in
theorem u217_719 {x0 x1 x2 x3 : Option Value} {x y : Int32} : zk_R sc d 217 719 [x0, x1, x2, x3] (.int y :: .int x :: st) M P = if x = y then zk_R sc d 217 1412 [x0, x1, x2, x3] st M P else zk_R sc d 217 722 [x0, x1, x2, x3] st M P := zr_ic_eq um217 (rfl : zk_lk zm_217.2.2.2.2.2 719 = some (.if_icmp .eq (693))) (by decide)
set_option maxRecDepth 20000 in
theorem u217_722 {x0 x1 x2 x3 : Option Value} : zk_R sc d 217 722 [x0, x1, x2, x3] st M P = zk_R sc d 217 723 [x0, x1, x2, x3] (.int 0 :: st) M P := zr_iconst um217 (rfl : zk_lk zm_217.2.2.2.2.2 722 = some (.iconst 0)) (by decide)
set_option maxRecDepth 20000 in
theorem u217_723 {x0 x1 x2 x3 : Option Value} {v : Int32} : zk_R sc d 217 723 [x0, x1, x2, x3] [.int v] M P = ((v = 0 ∨ v = 1) ∧ P (some (.int v)) M) := zr_retb um217 (rfl : zk_lk zm_217.2.2.2.2.2 723 = some (.ireturn)) rfl
set_option maxRecDepth 20000 in
theorem u217_724 {x0 x2 x3 : Option Value} {v : Nat} : zk_R sc d 217 724 [x0, some (.ref v), x2, x3] st M P = zk_R sc d 217 725 [x0, some (.ref v), x2, x3] (.ref v :: st) M P := zk_R_nx um217 (rfl : zk_lk zm_217.2.2.2.2.2 724 = some (.aload_n 1)) rfl
set_option maxRecDepth 20000 in
theorem u217_725 {x1 x2 x3 : Option Value} {v : Nat} : zk_R sc d 217 725 [some (.ref v), x1, x2, x3] st M P = zk_R sc d 217 726 [some (.ref v), x1, x2, x3] (.ref v :: st) M P := zk_R_nx um217 (rfl : zk_lk zm_217.2.2.2.2.2 725 = some (.aload_n 0)) rfl
set_option maxRecDepth 20000 in
theorem u217_726 {x0 x1 x2 : Option Value} {v : Int32} : zk_R sc d 217 726 [x0, x1, x2, some (.int v)] st M P = zk_R sc d 217 727 [x0, x1, x2, some (.int v)] (.int v :: st) M P := zk_R_nx um217 (rfl : zk_lk zm_217.2.2.2.2.2 726 = some (.iload_n 3)) rfl
set_option maxRecDepth 20000 in
theorem u217_727 {x0 x1 x2 x3 : Option Value} : zk_R sc d 217 727 [x0, x1, x2, x3] st M P = zk_R sc d 217 728 [x0, x1, x2, x3] (.int 1 :: st) M P := zr_iconst um217 (rfl : zk_lk zm_217.2.2.2.2.2 727 = some (.iconst 1)) (by decide)
set_option maxRecDepth 20000 in
theorem u217_728 {x0 x1 x2 x3 : Option Value} {v w : Int32} : zk_R sc d 217 728 [x0, x1, x2, x3] (.int w :: .int v :: st) M P = zk_R sc d 217 729 [x0, x1, x2, x3] (.int (v + w) :: st) M P := zk_R_nx um217 (rfl : zk_lk zm_217.2.2.2.2.2 728 = some (.iadd)) rfl
set_option maxRecDepth 20000 in
theorem u217_730 {x0 x1 x2 x3 : Option Value} {a0 : Nat} {a1 : Int32} (h1 : a0 < M.1) (h2 : (zk_sh a0).1 = 0) (h3 : (zk_sh a0).2.1 = 0) : zk_R sc (d + 1) 217 730 [x0, x1, x2, x3] [.int a1, .ref a0] M P = zk_R sc d 30 0 [some (.ref a0), some (.int a1), none] [] M (fun r M' => zk_R sc (d + 1) 217 733 [x0, x1, x2, x3] (r.toList ++ []) M' P) := zr_iv (as := [.int a1]) (rest := []) um217 (rfl : zk_lk zm_217.2.2.2.2.2 730 = some (.invokevirtual 90)) rfl (rfl : zk_mt 30 = some zm_30) rfl rfl rfl rfl rfl h1 h2 h3
set_option maxRecDepth 20000 in
theorem u217_733 {x0 x1 x3 : Option Value} {v : Nat} : zk_R sc d 217 733 [x0, x1, some (.ref v), x3] st M P = zk_R sc d 217 734 [x0, x1, some (.ref v), x3] (.ref v :: st) M P := zk_R_nx um217 (rfl : zk_lk zm_217.2.2.2.2.2 733 = some (.aload_n 2)) rfl
set_option maxRecDepth 20000 in
theorem u217_734 {x1 x2 x3 : Option Value} {v : Nat} : zk_R sc d 217 734 [some (.ref v), x1, x2, x3] st M P = zk_R sc d 217 735 [some (.ref v), x1, x2, x3] (.ref v :: st) M P := zk_R_nx um217 (rfl : zk_lk zm_217.2.2.2.2.2 734 = some (.aload_n 0)) rfl
set_option maxRecDepth 20000 in
theorem u217_735 {x0 x1 x2 : Option Value} {v : Int32} : zk_R sc d 217 735 [x0, x1, x2, some (.int v)] st M P = zk_R sc d 217 736 [x0, x1, x2, some (.int v)] (.int v :: st) M P := zk_R_nx um217 (rfl : zk_lk zm_217.2.2.2.2.2 735 = some (.iload_n 3)) rfl
set_option maxRecDepth 20000 in
theorem u217_736 {x0 x1 x2 x3 : Option Value} : zk_R sc d 217 736 [x0, x1, x2, x3] st M P = zk_R sc d 217 737 [x0, x1, x2, x3] (.int 1 :: st) M P := zr_iconst um217 (rfl : zk_lk zm_217.2.2.2.2.2 736 = some (.iconst 1)) (by decide)
set_option maxRecDepth 20000 in
theorem u217_737 {x0 x1 x2 x3 : Option Value} {v w : Int32} : zk_R sc d 217 737 [x0, x1, x2, x3] (.int w :: .int v :: st) M P = zk_R sc d 217 738 [x0, x1, x2, x3] (.int (v + w) :: st) M P := zk_R_nx um217 (rfl : zk_lk zm_217.2.2.2.2.2 737 = some (.iadd)) rfl
set_option maxRecDepth 20000 in
theorem u217_739 {x0 x1 x2 x3 : Option Value} {a0 : Nat} {a1 : Int32} {r0 : Int32} (h1 : a0 < M.1) (h2 : (zk_sh a0).1 = 0) (h3 : (zk_sh a0).2.1 = 6) : zk_R sc (d + 1) 217 739 [x0, x1, x2, x3] [.int a1, .ref a0, .int r0] M P = zk_R sc d 179 0 [some (.ref a0), some (.int a1), none] [] M (fun r M' => zk_R sc (d + 1) 217 742 [x0, x1, x2, x3] (r.toList ++ [.int r0]) M' P) := zr_iv (as := [.int a1]) (rest := [.int r0]) um217 (rfl : zk_lk zm_217.2.2.2.2.2 739 = some (.invokevirtual 93)) rfl (rfl : zk_mt 179 = some zm_179) rfl rfl rfl rfl rfl h1 h2 h3
set_option maxRecDepth 20000 in
theorem u217_742 {x0 x1 x2 x3 : Option Value} {x y : Int32} : zk_R sc d 217 742 [x0, x1, x2, x3] (.int y :: .int x :: st) M P = if x = y then zk_R sc d 217 1412 [x0, x1, x2, x3] st M P else zk_R sc d 217 745 [x0, x1, x2, x3] st M P := zr_ic_eq um217 (rfl : zk_lk zm_217.2.2.2.2.2 742 = some (.if_icmp .eq (670))) (by decide)
set_option maxRecDepth 20000 in
theorem u217_745 {x0 x1 x2 x3 : Option Value} : zk_R sc d 217 745 [x0, x1, x2, x3] st M P = zk_R sc d 217 746 [x0, x1, x2, x3] (.int 0 :: st) M P := zr_iconst um217 (rfl : zk_lk zm_217.2.2.2.2.2 745 = some (.iconst 0)) (by decide)
set_option maxRecDepth 20000 in
theorem u217_746 {x0 x1 x2 x3 : Option Value} {v : Int32} : zk_R sc d 217 746 [x0, x1, x2, x3] [.int v] M P = ((v = 0 ∨ v = 1) ∧ P (some (.int v)) M) := zr_retb um217 (rfl : zk_lk zm_217.2.2.2.2.2 746 = some (.ireturn)) rfl
set_option maxRecDepth 20000 in
theorem u217_747 {x0 x2 x3 : Option Value} {v : Nat} : zk_R sc d 217 747 [x0, some (.ref v), x2, x3] st M P = zk_R sc d 217 748 [x0, some (.ref v), x2, x3] (.ref v :: st) M P := zk_R_nx um217 (rfl : zk_lk zm_217.2.2.2.2.2 747 = some (.aload_n 1)) rfl
set_option maxRecDepth 20000 in
theorem u217_748 {x0 x1 x2 x3 : Option Value} {a0 : Nat} (h1 : a0 < M.1) (h2 : (zk_sh a0).1 = 0) (h3 : (zk_sh a0).2.1 = 0) : zk_R sc (d + 1) 217 748 [x0, x1, x2, x3] [.ref a0] M P = zk_R sc d 31 0 [some (.ref a0)] [] M (fun r M' => zk_R sc (d + 1) 217 751 [x0, x1, x2, x3] (r.toList ++ []) M' P) := zr_iv (as := []) (rest := []) um217 (rfl : zk_lk zm_217.2.2.2.2.2 748 = some (.invokevirtual 94)) rfl (rfl : zk_mt 31 = some zm_31) rfl rfl rfl rfl rfl h1 h2 h3
set_option maxRecDepth 20000 in
theorem u217_751 {x0 x1 x3 : Option Value} {v : Nat} : zk_R sc d 217 751 [x0, x1, some (.ref v), x3] st M P = zk_R sc d 217 752 [x0, x1, some (.ref v), x3] (.ref v :: st) M P := zk_R_nx um217 (rfl : zk_lk zm_217.2.2.2.2.2 751 = some (.aload_n 2)) rfl
set_option maxRecDepth 20000 in
theorem u217_752 {x0 x1 x2 x3 : Option Value} {a0 : Nat} {r0 : Int32} (h1 : a0 < M.1) (h2 : (zk_sh a0).1 = 0) (h3 : (zk_sh a0).2.1 = 6) : zk_R sc (d + 1) 217 752 [x0, x1, x2, x3] [.ref a0, .int r0] M P = zk_R sc d 182 0 [some (.ref a0), none, none, none] [] M (fun r M' => zk_R sc (d + 1) 217 755 [x0, x1, x2, x3] (r.toList ++ [.int r0]) M' P) := zr_iv (as := []) (rest := [.int r0]) um217 (rfl : zk_lk zm_217.2.2.2.2.2 752 = some (.invokevirtual 97)) rfl (rfl : zk_mt 182 = some zm_182) rfl rfl rfl rfl rfl h1 h2 h3
set_option maxRecDepth 20000 in
theorem u217_755 {x0 x1 x2 x3 : Option Value} {x y : Int32} : zk_R sc d 217 755 [x0, x1, x2, x3] (.int y :: .int x :: st) M P = if x = y then zk_R sc d 217 1412 [x0, x1, x2, x3] st M P else zk_R sc d 217 758 [x0, x1, x2, x3] st M P := zr_ic_eq um217 (rfl : zk_lk zm_217.2.2.2.2.2 755 = some (.if_icmp .eq (657))) (by decide)
set_option maxRecDepth 20000 in
theorem u217_758 {x0 x1 x2 x3 : Option Value} : zk_R sc d 217 758 [x0, x1, x2, x3] st M P = zk_R sc d 217 759 [x0, x1, x2, x3] (.int 0 :: st) M P := zr_iconst um217 (rfl : zk_lk zm_217.2.2.2.2.2 758 = some (.iconst 0)) (by decide)
set_option maxRecDepth 20000 in
theorem u217_759 {x0 x1 x2 x3 : Option Value} {v : Int32} : zk_R sc d 217 759 [x0, x1, x2, x3] [.int v] M P = ((v = 0 ∨ v = 1) ∧ P (some (.int v)) M) := zr_retb um217 (rfl : zk_lk zm_217.2.2.2.2.2 759 = some (.ireturn)) rfl
set_option maxRecDepth 20000 in
theorem u217_760 {x0 x2 x3 : Option Value} {v : Nat} : zk_R sc d 217 760 [x0, some (.ref v), x2, x3] st M P = zk_R sc d 217 761 [x0, some (.ref v), x2, x3] (.ref v :: st) M P := zk_R_nx um217 (rfl : zk_lk zm_217.2.2.2.2.2 760 = some (.aload_n 1)) rfl
set_option maxRecDepth 20000 in
theorem u217_761 {x0 x1 x2 x3 : Option Value} {a0 : Nat} (h1 : a0 < M.1) (h2 : (zk_sh a0).1 = 0) (h3 : (zk_sh a0).2.1 = 0) : zk_R sc (d + 1) 217 761 [x0, x1, x2, x3] [.ref a0] M P = zk_R sc d 32 0 [some (.ref a0), none, none] [] M (fun r M' => zk_R sc (d + 1) 217 764 [x0, x1, x2, x3] (r.toList ++ []) M' P) := zr_iv (as := []) (rest := []) um217 (rfl : zk_lk zm_217.2.2.2.2.2 761 = some (.invokevirtual 98)) rfl (rfl : zk_mt 32 = some zm_32) rfl rfl rfl rfl rfl h1 h2 h3
set_option maxRecDepth 20000 in
theorem u217_764 {x0 x1 x3 : Option Value} {v : Nat} : zk_R sc d 217 764 [x0, x1, some (.ref v), x3] st M P = zk_R sc d 217 765 [x0, x1, some (.ref v), x3] (.ref v :: st) M P := zk_R_nx um217 (rfl : zk_lk zm_217.2.2.2.2.2 764 = some (.aload_n 2)) rfl
set_option maxRecDepth 20000 in
theorem u217_765 {x0 x1 x2 x3 : Option Value} {a0 : Nat} {r0 : Int32} (h1 : a0 < M.1) (h2 : (zk_sh a0).1 = 0) (h3 : (zk_sh a0).2.1 = 6) : zk_R sc (d + 1) 217 765 [x0, x1, x2, x3] [.ref a0, .int r0] M P = zk_R sc d 183 0 [some (.ref a0), none] [] M (fun r M' => zk_R sc (d + 1) 217 768 [x0, x1, x2, x3] (r.toList ++ [.int r0]) M' P) := zr_iv (as := []) (rest := [.int r0]) um217 (rfl : zk_lk zm_217.2.2.2.2.2 765 = some (.invokevirtual 101)) rfl (rfl : zk_mt 183 = some zm_183) rfl rfl rfl rfl rfl h1 h2 h3
set_option maxRecDepth 20000 in
theorem u217_768 {x0 x1 x2 x3 : Option Value} {x y : Int32} : zk_R sc d 217 768 [x0, x1, x2, x3] (.int y :: .int x :: st) M P = if x = y then zk_R sc d 217 1412 [x0, x1, x2, x3] st M P else zk_R sc d 217 771 [x0, x1, x2, x3] st M P := zr_ic_eq um217 (rfl : zk_lk zm_217.2.2.2.2.2 768 = some (.if_icmp .eq (644))) (by decide)
set_option maxRecDepth 20000 in
theorem u217_771 {x0 x1 x2 x3 : Option Value} : zk_R sc d 217 771 [x0, x1, x2, x3] st M P = zk_R sc d 217 772 [x0, x1, x2, x3] (.int 0 :: st) M P := zr_iconst um217 (rfl : zk_lk zm_217.2.2.2.2.2 771 = some (.iconst 0)) (by decide)
set_option maxRecDepth 20000 in
theorem u217_772 {x0 x1 x2 x3 : Option Value} {v : Int32} : zk_R sc d 217 772 [x0, x1, x2, x3] [.int v] M P = ((v = 0 ∨ v = 1) ∧ P (some (.int v)) M) := zr_retb um217 (rfl : zk_lk zm_217.2.2.2.2.2 772 = some (.ireturn)) rfl
set_option maxRecDepth 20000 in
theorem u217_773 {x0 x2 x3 : Option Value} {v : Nat} : zk_R sc d 217 773 [x0, some (.ref v), x2, x3] st M P = zk_R sc d 217 774 [x0, some (.ref v), x2, x3] (.ref v :: st) M P := zk_R_nx um217 (rfl : zk_lk zm_217.2.2.2.2.2 773 = some (.aload_n 1)) rfl
set_option maxRecDepth 20000 in
theorem u217_774 {x1 x2 x3 : Option Value} {v : Nat} : zk_R sc d 217 774 [some (.ref v), x1, x2, x3] st M P = zk_R sc d 217 775 [some (.ref v), x1, x2, x3] (.ref v :: st) M P := zk_R_nx um217 (rfl : zk_lk zm_217.2.2.2.2.2 774 = some (.aload_n 0)) rfl
set_option maxRecDepth 20000 in
theorem u217_775 {x0 x1 x2 : Option Value} {v : Int32} : zk_R sc d 217 775 [x0, x1, x2, some (.int v)] st M P = zk_R sc d 217 776 [x0, x1, x2, some (.int v)] (.int v :: st) M P := zk_R_nx um217 (rfl : zk_lk zm_217.2.2.2.2.2 775 = some (.iload_n 3)) rfl
set_option maxRecDepth 20000 in
theorem u217_776 {x0 x1 x2 x3 : Option Value} : zk_R sc d 217 776 [x0, x1, x2, x3] st M P = zk_R sc d 217 777 [x0, x1, x2, x3] (.int 1 :: st) M P := zr_iconst um217 (rfl : zk_lk zm_217.2.2.2.2.2 776 = some (.iconst 1)) (by decide)
set_option maxRecDepth 20000 in
theorem u217_777 {x0 x1 x2 x3 : Option Value} {v w : Int32} : zk_R sc d 217 777 [x0, x1, x2, x3] (.int w :: .int v :: st) M P = zk_R sc d 217 778 [x0, x1, x2, x3] (.int (v + w) :: st) M P := zk_R_nx um217 (rfl : zk_lk zm_217.2.2.2.2.2 777 = some (.iadd)) rfl
set_option maxRecDepth 20000 in
theorem u217_779 {x1 x2 x3 : Option Value} {v : Nat} : zk_R sc d 217 779 [some (.ref v), x1, x2, x3] st M P = zk_R sc d 217 780 [some (.ref v), x1, x2, x3] (.ref v :: st) M P := zk_R_nx um217 (rfl : zk_lk zm_217.2.2.2.2.2 779 = some (.aload_n 0)) rfl
set_option maxRecDepth 20000 in
theorem u217_780 {x0 x1 x2 : Option Value} {v : Int32} : zk_R sc d 217 780 [x0, x1, x2, some (.int v)] st M P = zk_R sc d 217 781 [x0, x1, x2, some (.int v)] (.int v :: st) M P := zk_R_nx um217 (rfl : zk_lk zm_217.2.2.2.2.2 780 = some (.iload_n 3)) rfl
set_option maxRecDepth 20000 in
theorem u217_781 {x0 x1 x2 x3 : Option Value} : zk_R sc d 217 781 [x0, x1, x2, x3] st M P = zk_R sc d 217 782 [x0, x1, x2, x3] (.int 2 :: st) M P := zr_iconst um217 (rfl : zk_lk zm_217.2.2.2.2.2 781 = some (.iconst 2)) (by decide)
set_option maxRecDepth 20000 in
theorem u217_782 {x0 x1 x2 x3 : Option Value} {v w : Int32} : zk_R sc d 217 782 [x0, x1, x2, x3] (.int w :: .int v :: st) M P = zk_R sc d 217 783 [x0, x1, x2, x3] (.int (v + w) :: st) M P := zk_R_nx um217 (rfl : zk_lk zm_217.2.2.2.2.2 782 = some (.iadd)) rfl
set_option maxRecDepth 20000 in
theorem u217_784 {x0 x1 x2 x3 : Option Value} {a0 : Nat} {a1 : Int32} {a2 : Int32} (h1 : a0 < M.1) (h2 : (zk_sh a0).1 = 0) (h3 : (zk_sh a0).2.1 = 0) : zk_R sc (d + 1) 217 784 [x0, x1, x2, x3] [.int a2, .int a1, .ref a0] M P = zk_R sc d 33 0 [some (.ref a0), some (.int a1), some (.int a2)] [] M (fun r M' => zk_R sc (d + 1) 217 787 [x0, x1, x2, x3] (r.toList ++ []) M' P) := zr_iv (as := [.int a1, .int a2]) (rest := []) um217 (rfl : zk_lk zm_217.2.2.2.2.2 784 = some (.invokevirtual 102)) rfl (rfl : zk_mt 33 = some zm_33) rfl rfl rfl rfl rfl h1 h2 h3
set_option maxRecDepth 20000 in
theorem u217_787 {x0 x1 x3 : Option Value} {v : Nat} : zk_R sc d 217 787 [x0, x1, some (.ref v), x3] st M P = zk_R sc d 217 788 [x0, x1, some (.ref v), x3] (.ref v :: st) M P := zk_R_nx um217 (rfl : zk_lk zm_217.2.2.2.2.2 787 = some (.aload_n 2)) rfl
set_option maxRecDepth 20000 in
theorem u217_788 {x1 x2 x3 : Option Value} {v : Nat} : zk_R sc d 217 788 [some (.ref v), x1, x2, x3] st M P = zk_R sc d 217 789 [some (.ref v), x1, x2, x3] (.ref v :: st) M P := zk_R_nx um217 (rfl : zk_lk zm_217.2.2.2.2.2 788 = some (.aload_n 0)) rfl
set_option maxRecDepth 20000 in
theorem u217_789 {x0 x1 x2 : Option Value} {v : Int32} : zk_R sc d 217 789 [x0, x1, x2, some (.int v)] st M P = zk_R sc d 217 790 [x0, x1, x2, some (.int v)] (.int v :: st) M P := zk_R_nx um217 (rfl : zk_lk zm_217.2.2.2.2.2 789 = some (.iload_n 3)) rfl
set_option maxRecDepth 20000 in
theorem u217_790 {x0 x1 x2 x3 : Option Value} : zk_R sc d 217 790 [x0, x1, x2, x3] st M P = zk_R sc d 217 791 [x0, x1, x2, x3] (.int 1 :: st) M P := zr_iconst um217 (rfl : zk_lk zm_217.2.2.2.2.2 790 = some (.iconst 1)) (by decide)
set_option maxRecDepth 20000 in
theorem u217_791 {x0 x1 x2 x3 : Option Value} {v w : Int32} : zk_R sc d 217 791 [x0, x1, x2, x3] (.int w :: .int v :: st) M P = zk_R sc d 217 792 [x0, x1, x2, x3] (.int (v + w) :: st) M P := zk_R_nx um217 (rfl : zk_lk zm_217.2.2.2.2.2 791 = some (.iadd)) rfl
set_option maxRecDepth 20000 in
theorem u217_793 {x1 x2 x3 : Option Value} {v : Nat} : zk_R sc d 217 793 [some (.ref v), x1, x2, x3] st M P = zk_R sc d 217 794 [some (.ref v), x1, x2, x3] (.ref v :: st) M P := zk_R_nx um217 (rfl : zk_lk zm_217.2.2.2.2.2 793 = some (.aload_n 0)) rfl
set_option maxRecDepth 20000 in
theorem u217_794 {x0 x1 x2 : Option Value} {v : Int32} : zk_R sc d 217 794 [x0, x1, x2, some (.int v)] st M P = zk_R sc d 217 795 [x0, x1, x2, some (.int v)] (.int v :: st) M P := zk_R_nx um217 (rfl : zk_lk zm_217.2.2.2.2.2 794 = some (.iload_n 3)) rfl
set_option maxRecDepth 20000 in
theorem u217_795 {x0 x1 x2 x3 : Option Value} : zk_R sc d 217 795 [x0, x1, x2, x3] st M P = zk_R sc d 217 796 [x0, x1, x2, x3] (.int 2 :: st) M P := zr_iconst um217 (rfl : zk_lk zm_217.2.2.2.2.2 795 = some (.iconst 2)) (by decide)
set_option maxRecDepth 20000 in
theorem u217_796 {x0 x1 x2 x3 : Option Value} {v w : Int32} : zk_R sc d 217 796 [x0, x1, x2, x3] (.int w :: .int v :: st) M P = zk_R sc d 217 797 [x0, x1, x2, x3] (.int (v + w) :: st) M P := zk_R_nx um217 (rfl : zk_lk zm_217.2.2.2.2.2 796 = some (.iadd)) rfl
set_option maxRecDepth 20000 in
theorem u217_798 {x0 x1 x2 x3 : Option Value} {a0 : Nat} {a1 : Int32} {a2 : Int32} {r0 : Int32} (h1 : a0 < M.1) (h2 : (zk_sh a0).1 = 0) (h3 : (zk_sh a0).2.1 = 6) : zk_R sc (d + 1) 217 798 [x0, x1, x2, x3] [.int a2, .int a1, .ref a0, .int r0] M P = zk_R sc d 184 0 [some (.ref a0), some (.int a1), some (.int a2), none, none, none, none, none] [] M (fun r M' => zk_R sc (d + 1) 217 801 [x0, x1, x2, x3] (r.toList ++ [.int r0]) M' P) := zr_iv (as := [.int a1, .int a2]) (rest := [.int r0]) um217 (rfl : zk_lk zm_217.2.2.2.2.2 798 = some (.invokevirtual 105)) rfl (rfl : zk_mt 184 = some zm_184) rfl rfl rfl rfl rfl h1 h2 h3
set_option maxRecDepth 20000 in
theorem u217_801 {x0 x1 x2 x3 : Option Value} {x y : Int32} : zk_R sc d 217 801 [x0, x1, x2, x3] (.int y :: .int x :: st) M P = if x = y then zk_R sc d 217 1412 [x0, x1, x2, x3] st M P else zk_R sc d 217 804 [x0, x1, x2, x3] st M P := zr_ic_eq um217 (rfl : zk_lk zm_217.2.2.2.2.2 801 = some (.if_icmp .eq (611))) (by decide)
set_option maxRecDepth 20000 in
theorem u217_804 {x0 x1 x2 x3 : Option Value} : zk_R sc d 217 804 [x0, x1, x2, x3] st M P = zk_R sc d 217 805 [x0, x1, x2, x3] (.int 0 :: st) M P := zr_iconst um217 (rfl : zk_lk zm_217.2.2.2.2.2 804 = some (.iconst 0)) (by decide)
set_option maxRecDepth 20000 in
theorem u217_805 {x0 x1 x2 x3 : Option Value} {v : Int32} : zk_R sc d 217 805 [x0, x1, x2, x3] [.int v] M P = ((v = 0 ∨ v = 1) ∧ P (some (.int v)) M) := zr_retb um217 (rfl : zk_lk zm_217.2.2.2.2.2 805 = some (.ireturn)) rfl
set_option maxRecDepth 20000 in
theorem u217_806 {x0 x2 x3 : Option Value} {v : Nat} : zk_R sc d 217 806 [x0, some (.ref v), x2, x3] st M P = zk_R sc d 217 807 [x0, some (.ref v), x2, x3] (.ref v :: st) M P := zk_R_nx um217 (rfl : zk_lk zm_217.2.2.2.2.2 806 = some (.aload_n 1)) rfl
set_option maxRecDepth 20000 in
theorem u217_807 {x1 x2 x3 : Option Value} {v : Nat} : zk_R sc d 217 807 [some (.ref v), x1, x2, x3] st M P = zk_R sc d 217 808 [some (.ref v), x1, x2, x3] (.ref v :: st) M P := zk_R_nx um217 (rfl : zk_lk zm_217.2.2.2.2.2 807 = some (.aload_n 0)) rfl
set_option maxRecDepth 20000 in
theorem u217_808 {x0 x1 x2 : Option Value} {v : Int32} : zk_R sc d 217 808 [x0, x1, x2, some (.int v)] st M P = zk_R sc d 217 809 [x0, x1, x2, some (.int v)] (.int v :: st) M P := zk_R_nx um217 (rfl : zk_lk zm_217.2.2.2.2.2 808 = some (.iload_n 3)) rfl
set_option maxRecDepth 20000 in
theorem u217_809 {x0 x1 x2 x3 : Option Value} : zk_R sc d 217 809 [x0, x1, x2, x3] st M P = zk_R sc d 217 810 [x0, x1, x2, x3] (.int 1 :: st) M P := zr_iconst um217 (rfl : zk_lk zm_217.2.2.2.2.2 809 = some (.iconst 1)) (by decide)
set_option maxRecDepth 20000 in
theorem u217_810 {x0 x1 x2 x3 : Option Value} {v w : Int32} : zk_R sc d 217 810 [x0, x1, x2, x3] (.int w :: .int v :: st) M P = zk_R sc d 217 811 [x0, x1, x2, x3] (.int (v + w) :: st) M P := zk_R_nx um217 (rfl : zk_lk zm_217.2.2.2.2.2 810 = some (.iadd)) rfl
set_option maxRecDepth 20000 in
theorem u217_812 {x0 x1 x2 x3 : Option Value} {a0 : Nat} {a1 : Int32} (h1 : a0 < M.1) (h2 : (zk_sh a0).1 = 0) (h3 : (zk_sh a0).2.1 = 0) : zk_R sc (d + 1) 217 812 [x0, x1, x2, x3] [.int a1, .ref a0] M P = zk_R sc d 34 0 [some (.ref a0), some (.int a1)] [] M (fun r M' => zk_R sc (d + 1) 217 815 [x0, x1, x2, x3] (r.toList ++ []) M' P) := zr_iv (as := [.int a1]) (rest := []) um217 (rfl : zk_lk zm_217.2.2.2.2.2 812 = some (.invokevirtual 106)) rfl (rfl : zk_mt 34 = some zm_34) rfl rfl rfl rfl rfl h1 h2 h3
set_option maxRecDepth 20000 in
theorem u217_815 {x0 x1 x3 : Option Value} {v : Nat} : zk_R sc d 217 815 [x0, x1, some (.ref v), x3] st M P = zk_R sc d 217 816 [x0, x1, some (.ref v), x3] (.ref v :: st) M P := zk_R_nx um217 (rfl : zk_lk zm_217.2.2.2.2.2 815 = some (.aload_n 2)) rfl
set_option maxRecDepth 20000 in
theorem u217_816 {x1 x2 x3 : Option Value} {v : Nat} : zk_R sc d 217 816 [some (.ref v), x1, x2, x3] st M P = zk_R sc d 217 817 [some (.ref v), x1, x2, x3] (.ref v :: st) M P := zk_R_nx um217 (rfl : zk_lk zm_217.2.2.2.2.2 816 = some (.aload_n 0)) rfl
set_option maxRecDepth 20000 in
theorem u217_817 {x0 x1 x2 : Option Value} {v : Int32} : zk_R sc d 217 817 [x0, x1, x2, some (.int v)] st M P = zk_R sc d 217 818 [x0, x1, x2, some (.int v)] (.int v :: st) M P := zk_R_nx um217 (rfl : zk_lk zm_217.2.2.2.2.2 817 = some (.iload_n 3)) rfl
set_option maxRecDepth 20000 in
theorem u217_818 {x0 x1 x2 x3 : Option Value} : zk_R sc d 217 818 [x0, x1, x2, x3] st M P = zk_R sc d 217 819 [x0, x1, x2, x3] (.int 1 :: st) M P := zr_iconst um217 (rfl : zk_lk zm_217.2.2.2.2.2 818 = some (.iconst 1)) (by decide)
set_option maxRecDepth 20000 in
theorem u217_819 {x0 x1 x2 x3 : Option Value} {v w : Int32} : zk_R sc d 217 819 [x0, x1, x2, x3] (.int w :: .int v :: st) M P = zk_R sc d 217 820 [x0, x1, x2, x3] (.int (v + w) :: st) M P := zk_R_nx um217 (rfl : zk_lk zm_217.2.2.2.2.2 819 = some (.iadd)) rfl
set_option maxRecDepth 20000 in
theorem u217_821 {x0 x1 x2 x3 : Option Value} {a0 : Nat} {a1 : Int32} {r0 : Int32} (h1 : a0 < M.1) (h2 : (zk_sh a0).1 = 0) (h3 : (zk_sh a0).2.1 = 6) : zk_R sc (d + 1) 217 821 [x0, x1, x2, x3] [.int a1, .ref a0, .int r0] M P = zk_R sc d 185 0 [some (.ref a0), some (.int a1), none, none] [] M (fun r M' => zk_R sc (d + 1) 217 824 [x0, x1, x2, x3] (r.toList ++ [.int r0]) M' P) := zr_iv (as := [.int a1]) (rest := [.int r0]) um217 (rfl : zk_lk zm_217.2.2.2.2.2 821 = some (.invokevirtual 109)) rfl (rfl : zk_mt 185 = some zm_185) rfl rfl rfl rfl rfl h1 h2 h3
set_option maxRecDepth 20000 in
theorem u217_824 {x0 x1 x2 x3 : Option Value} {x y : Int32} : zk_R sc d 217 824 [x0, x1, x2, x3] (.int y :: .int x :: st) M P = if x = y then zk_R sc d 217 1412 [x0, x1, x2, x3] st M P else zk_R sc d 217 827 [x0, x1, x2, x3] st M P := zr_ic_eq um217 (rfl : zk_lk zm_217.2.2.2.2.2 824 = some (.if_icmp .eq (588))) (by decide)
set_option maxRecDepth 20000 in
theorem u217_827 {x0 x1 x2 x3 : Option Value} : zk_R sc d 217 827 [x0, x1, x2, x3] st M P = zk_R sc d 217 828 [x0, x1, x2, x3] (.int 0 :: st) M P := zr_iconst um217 (rfl : zk_lk zm_217.2.2.2.2.2 827 = some (.iconst 0)) (by decide)
set_option maxRecDepth 20000 in
theorem u217_828 {x0 x1 x2 x3 : Option Value} {v : Int32} : zk_R sc d 217 828 [x0, x1, x2, x3] [.int v] M P = ((v = 0 ∨ v = 1) ∧ P (some (.int v)) M) := zr_retb um217 (rfl : zk_lk zm_217.2.2.2.2.2 828 = some (.ireturn)) rfl
set_option maxRecDepth 20000 in
theorem u217_829 {x0 x2 x3 : Option Value} {v : Nat} : zk_R sc d 217 829 [x0, some (.ref v), x2, x3] st M P = zk_R sc d 217 830 [x0, some (.ref v), x2, x3] (.ref v :: st) M P := zk_R_nx um217 (rfl : zk_lk zm_217.2.2.2.2.2 829 = some (.aload_n 1)) rfl
set_option maxRecDepth 20000 in
theorem u217_830 {x1 x2 x3 : Option Value} {v : Nat} : zk_R sc d 217 830 [some (.ref v), x1, x2, x3] st M P = zk_R sc d 217 831 [some (.ref v), x1, x2, x3] (.ref v :: st) M P := zk_R_nx um217 (rfl : zk_lk zm_217.2.2.2.2.2 830 = some (.aload_n 0)) rfl
set_option maxRecDepth 20000 in
theorem u217_831 {x0 x1 x2 : Option Value} {v : Int32} : zk_R sc d 217 831 [x0, x1, x2, some (.int v)] st M P = zk_R sc d 217 832 [x0, x1, x2, some (.int v)] (.int v :: st) M P := zk_R_nx um217 (rfl : zk_lk zm_217.2.2.2.2.2 831 = some (.iload_n 3)) rfl
set_option maxRecDepth 20000 in
theorem u217_832 {x0 x1 x2 x3 : Option Value} : zk_R sc d 217 832 [x0, x1, x2, x3] st M P = zk_R sc d 217 833 [x0, x1, x2, x3] (.int 1 :: st) M P := zr_iconst um217 (rfl : zk_lk zm_217.2.2.2.2.2 832 = some (.iconst 1)) (by decide)
set_option maxRecDepth 20000 in
theorem u217_833 {x0 x1 x2 x3 : Option Value} {v w : Int32} : zk_R sc d 217 833 [x0, x1, x2, x3] (.int w :: .int v :: st) M P = zk_R sc d 217 834 [x0, x1, x2, x3] (.int (v + w) :: st) M P := zk_R_nx um217 (rfl : zk_lk zm_217.2.2.2.2.2 833 = some (.iadd)) rfl
set_option maxRecDepth 20000 in
theorem u217_835 {x1 x2 x3 : Option Value} {v : Nat} : zk_R sc d 217 835 [some (.ref v), x1, x2, x3] st M P = zk_R sc d 217 836 [some (.ref v), x1, x2, x3] (.ref v :: st) M P := zk_R_nx um217 (rfl : zk_lk zm_217.2.2.2.2.2 835 = some (.aload_n 0)) rfl
set_option maxRecDepth 20000 in
theorem u217_836 {x0 x1 x2 : Option Value} {v : Int32} : zk_R sc d 217 836 [x0, x1, x2, some (.int v)] st M P = zk_R sc d 217 837 [x0, x1, x2, some (.int v)] (.int v :: st) M P := zk_R_nx um217 (rfl : zk_lk zm_217.2.2.2.2.2 836 = some (.iload_n 3)) rfl
set_option maxRecDepth 20000 in
theorem u217_837 {x0 x1 x2 x3 : Option Value} : zk_R sc d 217 837 [x0, x1, x2, x3] st M P = zk_R sc d 217 838 [x0, x1, x2, x3] (.int 2 :: st) M P := zr_iconst um217 (rfl : zk_lk zm_217.2.2.2.2.2 837 = some (.iconst 2)) (by decide)
set_option maxRecDepth 20000 in
theorem u217_838 {x0 x1 x2 x3 : Option Value} {v w : Int32} : zk_R sc d 217 838 [x0, x1, x2, x3] (.int w :: .int v :: st) M P = zk_R sc d 217 839 [x0, x1, x2, x3] (.int (v + w) :: st) M P := zk_R_nx um217 (rfl : zk_lk zm_217.2.2.2.2.2 838 = some (.iadd)) rfl
set_option maxRecDepth 20000 in
theorem u217_840 {x0 x1 x2 x3 : Option Value} {a0 : Nat} {a1 : Int32} {a2 : Int32} (h1 : a0 < M.1) (h2 : (zk_sh a0).1 = 0) (h3 : (zk_sh a0).2.1 = 0) : zk_R sc (d + 1) 217 840 [x0, x1, x2, x3] [.int a2, .int a1, .ref a0] M P = zk_R sc d 35 0 [some (.ref a0), some (.int a1), some (.int a2), none, none] [] M (fun r M' => zk_R sc (d + 1) 217 843 [x0, x1, x2, x3] (r.toList ++ []) M' P) := zr_iv (as := [.int a1, .int a2]) (rest := []) um217 (rfl : zk_lk zm_217.2.2.2.2.2 840 = some (.invokevirtual 110)) rfl (rfl : zk_mt 35 = some zm_35) rfl rfl rfl rfl rfl h1 h2 h3
set_option maxRecDepth 20000 in
theorem u217_843 {x0 x1 x3 : Option Value} {v : Nat} : zk_R sc d 217 843 [x0, x1, some (.ref v), x3] st M P = zk_R sc d 217 844 [x0, x1, some (.ref v), x3] (.ref v :: st) M P := zk_R_nx um217 (rfl : zk_lk zm_217.2.2.2.2.2 843 = some (.aload_n 2)) rfl
set_option maxRecDepth 20000 in
theorem u217_844 {x1 x2 x3 : Option Value} {v : Nat} : zk_R sc d 217 844 [some (.ref v), x1, x2, x3] st M P = zk_R sc d 217 845 [some (.ref v), x1, x2, x3] (.ref v :: st) M P := zk_R_nx um217 (rfl : zk_lk zm_217.2.2.2.2.2 844 = some (.aload_n 0)) rfl
set_option maxRecDepth 20000 in
theorem u217_845 {x0 x1 x2 : Option Value} {v : Int32} : zk_R sc d 217 845 [x0, x1, x2, some (.int v)] st M P = zk_R sc d 217 846 [x0, x1, x2, some (.int v)] (.int v :: st) M P := zk_R_nx um217 (rfl : zk_lk zm_217.2.2.2.2.2 845 = some (.iload_n 3)) rfl
set_option maxRecDepth 20000 in
theorem u217_846 {x0 x1 x2 x3 : Option Value} : zk_R sc d 217 846 [x0, x1, x2, x3] st M P = zk_R sc d 217 847 [x0, x1, x2, x3] (.int 1 :: st) M P := zr_iconst um217 (rfl : zk_lk zm_217.2.2.2.2.2 846 = some (.iconst 1)) (by decide)
set_option maxRecDepth 20000 in
theorem u217_847 {x0 x1 x2 x3 : Option Value} {v w : Int32} : zk_R sc d 217 847 [x0, x1, x2, x3] (.int w :: .int v :: st) M P = zk_R sc d 217 848 [x0, x1, x2, x3] (.int (v + w) :: st) M P := zk_R_nx um217 (rfl : zk_lk zm_217.2.2.2.2.2 847 = some (.iadd)) rfl
set_option maxRecDepth 20000 in
theorem u217_849 {x1 x2 x3 : Option Value} {v : Nat} : zk_R sc d 217 849 [some (.ref v), x1, x2, x3] st M P = zk_R sc d 217 850 [some (.ref v), x1, x2, x3] (.ref v :: st) M P := zk_R_nx um217 (rfl : zk_lk zm_217.2.2.2.2.2 849 = some (.aload_n 0)) rfl
set_option maxRecDepth 20000 in
theorem u217_850 {x0 x1 x2 : Option Value} {v : Int32} : zk_R sc d 217 850 [x0, x1, x2, some (.int v)] st M P = zk_R sc d 217 851 [x0, x1, x2, some (.int v)] (.int v :: st) M P := zk_R_nx um217 (rfl : zk_lk zm_217.2.2.2.2.2 850 = some (.iload_n 3)) rfl
set_option maxRecDepth 20000 in
theorem u217_851 {x0 x1 x2 x3 : Option Value} : zk_R sc d 217 851 [x0, x1, x2, x3] st M P = zk_R sc d 217 852 [x0, x1, x2, x3] (.int 2 :: st) M P := zr_iconst um217 (rfl : zk_lk zm_217.2.2.2.2.2 851 = some (.iconst 2)) (by decide)
set_option maxRecDepth 20000 in
theorem u217_852 {x0 x1 x2 x3 : Option Value} {v w : Int32} : zk_R sc d 217 852 [x0, x1, x2, x3] (.int w :: .int v :: st) M P = zk_R sc d 217 853 [x0, x1, x2, x3] (.int (v + w) :: st) M P := zk_R_nx um217 (rfl : zk_lk zm_217.2.2.2.2.2 852 = some (.iadd)) rfl
set_option maxRecDepth 20000 in
theorem u217_854 {x0 x1 x2 x3 : Option Value} {a0 : Nat} {a1 : Int32} {a2 : Int32} {r0 : Int32} (h1 : a0 < M.1) (h2 : (zk_sh a0).1 = 0) (h3 : (zk_sh a0).2.1 = 6) : zk_R sc (d + 1) 217 854 [x0, x1, x2, x3] [.int a2, .int a1, .ref a0, .int r0] M P = zk_R sc d 186 0 [some (.ref a0), some (.int a1), some (.int a2), none, none, none] [] M (fun r M' => zk_R sc (d + 1) 217 857 [x0, x1, x2, x3] (r.toList ++ [.int r0]) M' P) := zr_iv (as := [.int a1, .int a2]) (rest := [.int r0]) um217 (rfl : zk_lk zm_217.2.2.2.2.2 854 = some (.invokevirtual 113)) rfl (rfl : zk_mt 186 = some zm_186) rfl rfl rfl rfl rfl h1 h2 h3
set_option maxRecDepth 20000 in
theorem u217_857 {x0 x1 x2 x3 : Option Value} {x y : Int32} : zk_R sc d 217 857 [x0, x1, x2, x3] (.int y :: .int x :: st) M P = if x = y then zk_R sc d 217 1412 [x0, x1, x2, x3] st M P else zk_R sc d 217 860 [x0, x1, x2, x3] st M P := zr_ic_eq um217 (rfl : zk_lk zm_217.2.2.2.2.2 857 = some (.if_icmp .eq (555))) (by decide)
set_option maxRecDepth 20000 in
theorem u217_860 {x0 x1 x2 x3 : Option Value} : zk_R sc d 217 860 [x0, x1, x2, x3] st M P = zk_R sc d 217 861 [x0, x1, x2, x3] (.int 0 :: st) M P := zr_iconst um217 (rfl : zk_lk zm_217.2.2.2.2.2 860 = some (.iconst 0)) (by decide)
set_option maxRecDepth 20000 in
theorem u217_861 {x0 x1 x2 x3 : Option Value} {v : Int32} : zk_R sc d 217 861 [x0, x1, x2, x3] [.int v] M P = ((v = 0 ∨ v = 1) ∧ P (some (.int v)) M) := zr_retb um217 (rfl : zk_lk zm_217.2.2.2.2.2 861 = some (.ireturn)) rfl
set_option maxRecDepth 20000 in
theorem u217_862 {x0 x2 x3 : Option Value} {v : Nat} : zk_R sc d 217 862 [x0, some (.ref v), x2, x3] st M P = zk_R sc d 217 863 [x0, some (.ref v), x2, x3] (.ref v :: st) M P := zk_R_nx um217 (rfl : zk_lk zm_217.2.2.2.2.2 862 = some (.aload_n 1)) rfl
set_option maxRecDepth 20000 in
theorem u217_863 {x1 x2 x3 : Option Value} {v : Nat} : zk_R sc d 217 863 [some (.ref v), x1, x2, x3] st M P = zk_R sc d 217 864 [some (.ref v), x1, x2, x3] (.ref v :: st) M P := zk_R_nx um217 (rfl : zk_lk zm_217.2.2.2.2.2 863 = some (.aload_n 0)) rfl
set_option maxRecDepth 20000 in
theorem u217_864 {x0 x1 x2 : Option Value} {v : Int32} : zk_R sc d 217 864 [x0, x1, x2, some (.int v)] st M P = zk_R sc d 217 865 [x0, x1, x2, some (.int v)] (.int v :: st) M P := zk_R_nx um217 (rfl : zk_lk zm_217.2.2.2.2.2 864 = some (.iload_n 3)) rfl
set_option maxRecDepth 20000 in
theorem u217_865 {x0 x1 x2 x3 : Option Value} : zk_R sc d 217 865 [x0, x1, x2, x3] st M P = zk_R sc d 217 866 [x0, x1, x2, x3] (.int 1 :: st) M P := zr_iconst um217 (rfl : zk_lk zm_217.2.2.2.2.2 865 = some (.iconst 1)) (by decide)
set_option maxRecDepth 20000 in
theorem u217_866 {x0 x1 x2 x3 : Option Value} {v w : Int32} : zk_R sc d 217 866 [x0, x1, x2, x3] (.int w :: .int v :: st) M P = zk_R sc d 217 867 [x0, x1, x2, x3] (.int (v + w) :: st) M P := zk_R_nx um217 (rfl : zk_lk zm_217.2.2.2.2.2 866 = some (.iadd)) rfl
set_option maxRecDepth 20000 in
theorem u217_868 {x0 x1 x2 x3 : Option Value} {a0 : Nat} {a1 : Int32} (h1 : a0 < M.1) (h2 : (zk_sh a0).1 = 0) (h3 : (zk_sh a0).2.1 = 0) : zk_R sc (d + 1) 217 868 [x0, x1, x2, x3] [.int a1, .ref a0] M P = zk_R sc d 36 0 [some (.ref a0), some (.int a1), none] [] M (fun r M' => zk_R sc (d + 1) 217 871 [x0, x1, x2, x3] (r.toList ++ []) M' P) := zr_iv (as := [.int a1]) (rest := []) um217 (rfl : zk_lk zm_217.2.2.2.2.2 868 = some (.invokevirtual 114)) rfl (rfl : zk_mt 36 = some zm_36) rfl rfl rfl rfl rfl h1 h2 h3
set_option maxRecDepth 20000 in
theorem u217_871 {x0 x1 x3 : Option Value} {v : Nat} : zk_R sc d 217 871 [x0, x1, some (.ref v), x3] st M P = zk_R sc d 217 872 [x0, x1, some (.ref v), x3] (.ref v :: st) M P := zk_R_nx um217 (rfl : zk_lk zm_217.2.2.2.2.2 871 = some (.aload_n 2)) rfl
set_option maxRecDepth 20000 in
theorem u217_872 {x1 x2 x3 : Option Value} {v : Nat} : zk_R sc d 217 872 [some (.ref v), x1, x2, x3] st M P = zk_R sc d 217 873 [some (.ref v), x1, x2, x3] (.ref v :: st) M P := zk_R_nx um217 (rfl : zk_lk zm_217.2.2.2.2.2 872 = some (.aload_n 0)) rfl
set_option maxRecDepth 20000 in
theorem u217_873 {x0 x1 x2 : Option Value} {v : Int32} : zk_R sc d 217 873 [x0, x1, x2, some (.int v)] st M P = zk_R sc d 217 874 [x0, x1, x2, some (.int v)] (.int v :: st) M P := zk_R_nx um217 (rfl : zk_lk zm_217.2.2.2.2.2 873 = some (.iload_n 3)) rfl
set_option maxRecDepth 20000 in
theorem u217_874 {x0 x1 x2 x3 : Option Value} : zk_R sc d 217 874 [x0, x1, x2, x3] st M P = zk_R sc d 217 875 [x0, x1, x2, x3] (.int 1 :: st) M P := zr_iconst um217 (rfl : zk_lk zm_217.2.2.2.2.2 874 = some (.iconst 1)) (by decide)
set_option maxRecDepth 20000 in
theorem u217_875 {x0 x1 x2 x3 : Option Value} {v w : Int32} : zk_R sc d 217 875 [x0, x1, x2, x3] (.int w :: .int v :: st) M P = zk_R sc d 217 876 [x0, x1, x2, x3] (.int (v + w) :: st) M P := zk_R_nx um217 (rfl : zk_lk zm_217.2.2.2.2.2 875 = some (.iadd)) rfl
set_option maxRecDepth 20000 in
theorem u217_877 {x0 x1 x2 x3 : Option Value} {a0 : Nat} {a1 : Int32} {r0 : Int32} (h1 : a0 < M.1) (h2 : (zk_sh a0).1 = 0) (h3 : (zk_sh a0).2.1 = 6) : zk_R sc (d + 1) 217 877 [x0, x1, x2, x3] [.int a1, .ref a0, .int r0] M P = zk_R sc d 190 0 [some (.ref a0), some (.int a1), none] [] M (fun r M' => zk_R sc (d + 1) 217 880 [x0, x1, x2, x3] (r.toList ++ [.int r0]) M' P) := zr_iv (as := [.int a1]) (rest := [.int r0]) um217 (rfl : zk_lk zm_217.2.2.2.2.2 877 = some (.invokevirtual 117)) rfl (rfl : zk_mt 190 = some zm_190) rfl rfl rfl rfl rfl h1 h2 h3
set_option maxRecDepth 20000 in
theorem u217_880 {x0 x1 x2 x3 : Option Value} {x y : Int32} : zk_R sc d 217 880 [x0, x1, x2, x3] (.int y :: .int x :: st) M P = if x = y then zk_R sc d 217 1412 [x0, x1, x2, x3] st M P else zk_R sc d 217 883 [x0, x1, x2, x3] st M P := zr_ic_eq um217 (rfl : zk_lk zm_217.2.2.2.2.2 880 = some (.if_icmp .eq (532))) (by decide)
set_option maxRecDepth 20000 in
theorem u217_883 {x0 x1 x2 x3 : Option Value} : zk_R sc d 217 883 [x0, x1, x2, x3] st M P = zk_R sc d 217 884 [x0, x1, x2, x3] (.int 0 :: st) M P := zr_iconst um217 (rfl : zk_lk zm_217.2.2.2.2.2 883 = some (.iconst 0)) (by decide)
set_option maxRecDepth 20000 in
theorem u217_884 {x0 x1 x2 x3 : Option Value} {v : Int32} : zk_R sc d 217 884 [x0, x1, x2, x3] [.int v] M P = ((v = 0 ∨ v = 1) ∧ P (some (.int v)) M) := zr_retb um217 (rfl : zk_lk zm_217.2.2.2.2.2 884 = some (.ireturn)) rfl
set_option maxRecDepth 20000 in
theorem u217_885 {x0 x2 x3 : Option Value} {v : Nat} : zk_R sc d 217 885 [x0, some (.ref v), x2, x3] st M P = zk_R sc d 217 886 [x0, some (.ref v), x2, x3] (.ref v :: st) M P := zk_R_nx um217 (rfl : zk_lk zm_217.2.2.2.2.2 885 = some (.aload_n 1)) rfl
set_option maxRecDepth 20000 in
theorem u217_886 {x1 x2 x3 : Option Value} {v : Nat} : zk_R sc d 217 886 [some (.ref v), x1, x2, x3] st M P = zk_R sc d 217 887 [some (.ref v), x1, x2, x3] (.ref v :: st) M P := zk_R_nx um217 (rfl : zk_lk zm_217.2.2.2.2.2 886 = some (.aload_n 0)) rfl
set_option maxRecDepth 20000 in
theorem u217_887 {x0 x1 x2 : Option Value} {v : Int32} : zk_R sc d 217 887 [x0, x1, x2, some (.int v)] st M P = zk_R sc d 217 888 [x0, x1, x2, some (.int v)] (.int v :: st) M P := zk_R_nx um217 (rfl : zk_lk zm_217.2.2.2.2.2 887 = some (.iload_n 3)) rfl
set_option maxRecDepth 20000 in
theorem u217_888 {x0 x1 x2 x3 : Option Value} : zk_R sc d 217 888 [x0, x1, x2, x3] st M P = zk_R sc d 217 889 [x0, x1, x2, x3] (.int 1 :: st) M P := zr_iconst um217 (rfl : zk_lk zm_217.2.2.2.2.2 888 = some (.iconst 1)) (by decide)
set_option maxRecDepth 20000 in
theorem u217_889 {x0 x1 x2 x3 : Option Value} {v w : Int32} : zk_R sc d 217 889 [x0, x1, x2, x3] (.int w :: .int v :: st) M P = zk_R sc d 217 890 [x0, x1, x2, x3] (.int (v + w) :: st) M P := zk_R_nx um217 (rfl : zk_lk zm_217.2.2.2.2.2 889 = some (.iadd)) rfl
set_option maxRecDepth 20000 in
theorem u217_891 {x0 x1 x2 x3 : Option Value} {a0 : Nat} {a1 : Int32} (h1 : a0 < M.1) (h2 : (zk_sh a0).1 = 0) (h3 : (zk_sh a0).2.1 = 0) : zk_R sc (d + 1) 217 891 [x0, x1, x2, x3] [.int a1, .ref a0] M P = zk_R sc d 40 0 [some (.ref a0), some (.int a1), none, none, none] [] M (fun r M' => zk_R sc (d + 1) 217 894 [x0, x1, x2, x3] (r.toList ++ []) M' P) := zr_iv (as := [.int a1]) (rest := []) um217 (rfl : zk_lk zm_217.2.2.2.2.2 891 = some (.invokevirtual 118)) rfl (rfl : zk_mt 40 = some zm_40) rfl rfl rfl rfl rfl h1 h2 h3
set_option maxRecDepth 20000 in
theorem u217_894 {x0 x1 x3 : Option Value} {v : Nat} : zk_R sc d 217 894 [x0, x1, some (.ref v), x3] st M P = zk_R sc d 217 895 [x0, x1, some (.ref v), x3] (.ref v :: st) M P := zk_R_nx um217 (rfl : zk_lk zm_217.2.2.2.2.2 894 = some (.aload_n 2)) rfl
set_option maxRecDepth 20000 in
theorem u217_895 {x1 x2 x3 : Option Value} {v : Nat} : zk_R sc d 217 895 [some (.ref v), x1, x2, x3] st M P = zk_R sc d 217 896 [some (.ref v), x1, x2, x3] (.ref v :: st) M P := zk_R_nx um217 (rfl : zk_lk zm_217.2.2.2.2.2 895 = some (.aload_n 0)) rfl
set_option maxRecDepth 20000 in
theorem u217_896 {x0 x1 x2 : Option Value} {v : Int32} : zk_R sc d 217 896 [x0, x1, x2, some (.int v)] st M P = zk_R sc d 217 897 [x0, x1, x2, some (.int v)] (.int v :: st) M P := zk_R_nx um217 (rfl : zk_lk zm_217.2.2.2.2.2 896 = some (.iload_n 3)) rfl
set_option maxRecDepth 20000 in
theorem u217_897 {x0 x1 x2 x3 : Option Value} : zk_R sc d 217 897 [x0, x1, x2, x3] st M P = zk_R sc d 217 898 [x0, x1, x2, x3] (.int 1 :: st) M P := zr_iconst um217 (rfl : zk_lk zm_217.2.2.2.2.2 897 = some (.iconst 1)) (by decide)
set_option maxRecDepth 20000 in
theorem u217_898 {x0 x1 x2 x3 : Option Value} {v w : Int32} : zk_R sc d 217 898 [x0, x1, x2, x3] (.int w :: .int v :: st) M P = zk_R sc d 217 899 [x0, x1, x2, x3] (.int (v + w) :: st) M P := zk_R_nx um217 (rfl : zk_lk zm_217.2.2.2.2.2 898 = some (.iadd)) rfl
set_option maxRecDepth 20000 in
theorem u217_900 {x0 x1 x2 x3 : Option Value} {a0 : Nat} {a1 : Int32} {r0 : Int32} (h1 : a0 < M.1) (h2 : (zk_sh a0).1 = 0) (h3 : (zk_sh a0).2.1 = 6) : zk_R sc (d + 1) 217 900 [x0, x1, x2, x3] [.int a1, .ref a0, .int r0] M P = zk_R sc d 195 0 [some (.ref a0), some (.int a1), none, none, none] [] M (fun r M' => zk_R sc (d + 1) 217 903 [x0, x1, x2, x3] (r.toList ++ [.int r0]) M' P) := zr_iv (as := [.int a1]) (rest := [.int r0]) um217 (rfl : zk_lk zm_217.2.2.2.2.2 900 = some (.invokevirtual 121)) rfl (rfl : zk_mt 195 = some zm_195) rfl rfl rfl rfl rfl h1 h2 h3
set_option maxRecDepth 20000 in
theorem u217_903 {x0 x1 x2 x3 : Option Value} {x y : Int32} : zk_R sc d 217 903 [x0, x1, x2, x3] (.int y :: .int x :: st) M P = if x = y then zk_R sc d 217 1412 [x0, x1, x2, x3] st M P else zk_R sc d 217 906 [x0, x1, x2, x3] st M P := zr_ic_eq um217 (rfl : zk_lk zm_217.2.2.2.2.2 903 = some (.if_icmp .eq (509))) (by decide)
set_option maxRecDepth 20000 in
theorem u217_906 {x0 x1 x2 x3 : Option Value} : zk_R sc d 217 906 [x0, x1, x2, x3] st M P = zk_R sc d 217 907 [x0, x1, x2, x3] (.int 0 :: st) M P := zr_iconst um217 (rfl : zk_lk zm_217.2.2.2.2.2 906 = some (.iconst 0)) (by decide)
set_option maxRecDepth 20000 in
theorem u217_907 {x0 x1 x2 x3 : Option Value} {v : Int32} : zk_R sc d 217 907 [x0, x1, x2, x3] [.int v] M P = ((v = 0 ∨ v = 1) ∧ P (some (.int v)) M) := zr_retb um217 (rfl : zk_lk zm_217.2.2.2.2.2 907 = some (.ireturn)) rfl
set_option maxRecDepth 20000 in
theorem u217_908 {x0 x2 x3 : Option Value} {v : Nat} : zk_R sc d 217 908 [x0, some (.ref v), x2, x3] st M P = zk_R sc d 217 909 [x0, some (.ref v), x2, x3] (.ref v :: st) M P := zk_R_nx um217 (rfl : zk_lk zm_217.2.2.2.2.2 908 = some (.aload_n 1)) rfl
set_option maxRecDepth 20000 in
theorem u217_909 {x1 x2 x3 : Option Value} {v : Nat} : zk_R sc d 217 909 [some (.ref v), x1, x2, x3] st M P = zk_R sc d 217 910 [some (.ref v), x1, x2, x3] (.ref v :: st) M P := zk_R_nx um217 (rfl : zk_lk zm_217.2.2.2.2.2 909 = some (.aload_n 0)) rfl
set_option maxRecDepth 20000 in
theorem u217_910 {x0 x1 x2 : Option Value} {v : Int32} : zk_R sc d 217 910 [x0, x1, x2, some (.int v)] st M P = zk_R sc d 217 911 [x0, x1, x2, some (.int v)] (.int v :: st) M P := zk_R_nx um217 (rfl : zk_lk zm_217.2.2.2.2.2 910 = some (.iload_n 3)) rfl
set_option maxRecDepth 20000 in
theorem u217_911 {x0 x1 x2 x3 : Option Value} : zk_R sc d 217 911 [x0, x1, x2, x3] st M P = zk_R sc d 217 912 [x0, x1, x2, x3] (.int 1 :: st) M P := zr_iconst um217 (rfl : zk_lk zm_217.2.2.2.2.2 911 = some (.iconst 1)) (by decide)
set_option maxRecDepth 20000 in
theorem u217_912 {x0 x1 x2 x3 : Option Value} {v w : Int32} : zk_R sc d 217 912 [x0, x1, x2, x3] (.int w :: .int v :: st) M P = zk_R sc d 217 913 [x0, x1, x2, x3] (.int (v + w) :: st) M P := zk_R_nx um217 (rfl : zk_lk zm_217.2.2.2.2.2 912 = some (.iadd)) rfl
set_option maxRecDepth 20000 in
theorem u217_914 {x1 x2 x3 : Option Value} {v : Nat} : zk_R sc d 217 914 [some (.ref v), x1, x2, x3] st M P = zk_R sc d 217 915 [some (.ref v), x1, x2, x3] (.ref v :: st) M P := zk_R_nx um217 (rfl : zk_lk zm_217.2.2.2.2.2 914 = some (.aload_n 0)) rfl
set_option maxRecDepth 20000 in
theorem u217_915 {x0 x1 x2 : Option Value} {v : Int32} : zk_R sc d 217 915 [x0, x1, x2, some (.int v)] st M P = zk_R sc d 217 916 [x0, x1, x2, some (.int v)] (.int v :: st) M P := zk_R_nx um217 (rfl : zk_lk zm_217.2.2.2.2.2 915 = some (.iload_n 3)) rfl
set_option maxRecDepth 20000 in
theorem u217_916 {x0 x1 x2 x3 : Option Value} : zk_R sc d 217 916 [x0, x1, x2, x3] st M P = zk_R sc d 217 917 [x0, x1, x2, x3] (.int 2 :: st) M P := zr_iconst um217 (rfl : zk_lk zm_217.2.2.2.2.2 916 = some (.iconst 2)) (by decide)
set_option maxRecDepth 20000 in
theorem u217_917 {x0 x1 x2 x3 : Option Value} {v w : Int32} : zk_R sc d 217 917 [x0, x1, x2, x3] (.int w :: .int v :: st) M P = zk_R sc d 217 918 [x0, x1, x2, x3] (.int (v + w) :: st) M P := zk_R_nx um217 (rfl : zk_lk zm_217.2.2.2.2.2 917 = some (.iadd)) rfl
set_option maxRecDepth 20000 in
theorem u217_919 {x0 x1 x2 x3 : Option Value} {a0 : Nat} {a1 : Int32} {a2 : Int32} (h1 : a0 < M.1) (h2 : (zk_sh a0).1 = 0) (h3 : (zk_sh a0).2.1 = 0) : zk_R sc (d + 1) 217 919 [x0, x1, x2, x3] [.int a2, .int a1, .ref a0] M P = zk_R sc d 42 0 [some (.ref a0), some (.int a1), some (.int a2)] [] M (fun r M' => zk_R sc (d + 1) 217 922 [x0, x1, x2, x3] (r.toList ++ []) M' P) := zr_iv (as := [.int a1, .int a2]) (rest := []) um217 (rfl : zk_lk zm_217.2.2.2.2.2 919 = some (.invokevirtual 122)) rfl (rfl : zk_mt 42 = some zm_42) rfl rfl rfl rfl rfl h1 h2 h3
set_option maxRecDepth 20000 in
theorem u217_922 {x0 x1 x3 : Option Value} {v : Nat} : zk_R sc d 217 922 [x0, x1, some (.ref v), x3] st M P = zk_R sc d 217 923 [x0, x1, some (.ref v), x3] (.ref v :: st) M P := zk_R_nx um217 (rfl : zk_lk zm_217.2.2.2.2.2 922 = some (.aload_n 2)) rfl
set_option maxRecDepth 20000 in
theorem u217_923 {x1 x2 x3 : Option Value} {v : Nat} : zk_R sc d 217 923 [some (.ref v), x1, x2, x3] st M P = zk_R sc d 217 924 [some (.ref v), x1, x2, x3] (.ref v :: st) M P := zk_R_nx um217 (rfl : zk_lk zm_217.2.2.2.2.2 923 = some (.aload_n 0)) rfl
set_option maxRecDepth 20000 in
theorem u217_924 {x0 x1 x2 : Option Value} {v : Int32} : zk_R sc d 217 924 [x0, x1, x2, some (.int v)] st M P = zk_R sc d 217 925 [x0, x1, x2, some (.int v)] (.int v :: st) M P := zk_R_nx um217 (rfl : zk_lk zm_217.2.2.2.2.2 924 = some (.iload_n 3)) rfl
set_option maxRecDepth 20000 in
theorem u217_925 {x0 x1 x2 x3 : Option Value} : zk_R sc d 217 925 [x0, x1, x2, x3] st M P = zk_R sc d 217 926 [x0, x1, x2, x3] (.int 1 :: st) M P := zr_iconst um217 (rfl : zk_lk zm_217.2.2.2.2.2 925 = some (.iconst 1)) (by decide)
set_option maxRecDepth 20000 in
theorem u217_926 {x0 x1 x2 x3 : Option Value} {v w : Int32} : zk_R sc d 217 926 [x0, x1, x2, x3] (.int w :: .int v :: st) M P = zk_R sc d 217 927 [x0, x1, x2, x3] (.int (v + w) :: st) M P := zk_R_nx um217 (rfl : zk_lk zm_217.2.2.2.2.2 926 = some (.iadd)) rfl
set_option maxRecDepth 20000 in
theorem u217_928 {x1 x2 x3 : Option Value} {v : Nat} : zk_R sc d 217 928 [some (.ref v), x1, x2, x3] st M P = zk_R sc d 217 929 [some (.ref v), x1, x2, x3] (.ref v :: st) M P := zk_R_nx um217 (rfl : zk_lk zm_217.2.2.2.2.2 928 = some (.aload_n 0)) rfl
set_option maxRecDepth 20000 in
theorem u217_929 {x0 x1 x2 : Option Value} {v : Int32} : zk_R sc d 217 929 [x0, x1, x2, some (.int v)] st M P = zk_R sc d 217 930 [x0, x1, x2, some (.int v)] (.int v :: st) M P := zk_R_nx um217 (rfl : zk_lk zm_217.2.2.2.2.2 929 = some (.iload_n 3)) rfl
set_option maxRecDepth 20000 in
theorem u217_930 {x0 x1 x2 x3 : Option Value} : zk_R sc d 217 930 [x0, x1, x2, x3] st M P = zk_R sc d 217 931 [x0, x1, x2, x3] (.int 2 :: st) M P := zr_iconst um217 (rfl : zk_lk zm_217.2.2.2.2.2 930 = some (.iconst 2)) (by decide)
set_option maxRecDepth 20000 in
theorem u217_931 {x0 x1 x2 x3 : Option Value} {v w : Int32} : zk_R sc d 217 931 [x0, x1, x2, x3] (.int w :: .int v :: st) M P = zk_R sc d 217 932 [x0, x1, x2, x3] (.int (v + w) :: st) M P := zk_R_nx um217 (rfl : zk_lk zm_217.2.2.2.2.2 931 = some (.iadd)) rfl
set_option maxRecDepth 20000 in
theorem u217_933 {x0 x1 x2 x3 : Option Value} {a0 : Nat} {a1 : Int32} {a2 : Int32} {r0 : Int64} (h1 : a0 < M.1) (h2 : (zk_sh a0).1 = 0) (h3 : (zk_sh a0).2.1 = 6) : zk_R sc (d + 1) 217 933 [x0, x1, x2, x3] [.int a2, .int a1, .ref a0, .long r0] M P = zk_R sc d 197 0 [some (.ref a0), some (.int a1), some (.int a2), none, none] [] M (fun r M' => zk_R sc (d + 1) 217 936 [x0, x1, x2, x3] (r.toList ++ [.long r0]) M' P) := zr_iv (as := [.int a1, .int a2]) (rest := [.long r0]) um217 (rfl : zk_lk zm_217.2.2.2.2.2 933 = some (.invokevirtual 126)) rfl (rfl : zk_mt 197 = some zm_197) rfl rfl rfl rfl rfl h1 h2 h3
set_option maxRecDepth 20000 in
theorem u217_936 {x0 x1 x2 x3 : Option Value} {v w : Int64} : zk_R sc d 217 936 [x0, x1, x2, x3] (.long w :: .long v :: st) M P = zk_R sc d 217 937 [x0, x1, x2, x3] (.int (lg_cmp v w) :: st) M P := zk_R_nx um217 (rfl : zk_lk zm_217.2.2.2.2.2 936 = some (.lcmp)) rfl
set_option maxRecDepth 20000 in
theorem u217_937 {x0 x1 x2 x3 : Option Value} {x : Int32} : zk_R sc d 217 937 [x0, x1, x2, x3] (.int x :: st) M P = if x = 0 then zk_R sc d 217 1412 [x0, x1, x2, x3] st M P else zk_R sc d 217 940 [x0, x1, x2, x3] st M P := zr_if_eq um217 (rfl : zk_lk zm_217.2.2.2.2.2 937 = some (.ifCond .eq (475))) (by decide)
set_option maxRecDepth 20000 in
theorem u217_940 {x0 x1 x2 x3 : Option Value} : zk_R sc d 217 940 [x0, x1, x2, x3] st M P = zk_R sc d 217 941 [x0, x1, x2, x3] (.int 0 :: st) M P := zr_iconst um217 (rfl : zk_lk zm_217.2.2.2.2.2 940 = some (.iconst 0)) (by decide)
set_option maxRecDepth 20000 in
theorem u217_941 {x0 x1 x2 x3 : Option Value} {v : Int32} : zk_R sc d 217 941 [x0, x1, x2, x3] [.int v] M P = ((v = 0 ∨ v = 1) ∧ P (some (.int v)) M) := zr_retb um217 (rfl : zk_lk zm_217.2.2.2.2.2 941 = some (.ireturn)) rfl
set_option maxRecDepth 20000 in
theorem u217_942 {x0 x2 x3 : Option Value} {v : Nat} : zk_R sc d 217 942 [x0, some (.ref v), x2, x3] st M P = zk_R sc d 217 943 [x0, some (.ref v), x2, x3] (.ref v :: st) M P := zk_R_nx um217 (rfl : zk_lk zm_217.2.2.2.2.2 942 = some (.aload_n 1)) rfl
set_option maxRecDepth 20000 in
theorem u217_943 {x1 x2 x3 : Option Value} {v : Nat} : zk_R sc d 217 943 [some (.ref v), x1, x2, x3] st M P = zk_R sc d 217 944 [some (.ref v), x1, x2, x3] (.ref v :: st) M P := zk_R_nx um217 (rfl : zk_lk zm_217.2.2.2.2.2 943 = some (.aload_n 0)) rfl
set_option maxRecDepth 20000 in
theorem u217_944 {x0 x1 x2 : Option Value} {v : Int32} : zk_R sc d 217 944 [x0, x1, x2, some (.int v)] st M P = zk_R sc d 217 945 [x0, x1, x2, some (.int v)] (.int v :: st) M P := zk_R_nx um217 (rfl : zk_lk zm_217.2.2.2.2.2 944 = some (.iload_n 3)) rfl
set_option maxRecDepth 20000 in
theorem u217_945 {x0 x1 x2 x3 : Option Value} : zk_R sc d 217 945 [x0, x1, x2, x3] st M P = zk_R sc d 217 946 [x0, x1, x2, x3] (.int 1 :: st) M P := zr_iconst um217 (rfl : zk_lk zm_217.2.2.2.2.2 945 = some (.iconst 1)) (by decide)
set_option maxRecDepth 20000 in
theorem u217_946 {x0 x1 x2 x3 : Option Value} {v w : Int32} : zk_R sc d 217 946 [x0, x1, x2, x3] (.int w :: .int v :: st) M P = zk_R sc d 217 947 [x0, x1, x2, x3] (.int (v + w) :: st) M P := zk_R_nx um217 (rfl : zk_lk zm_217.2.2.2.2.2 946 = some (.iadd)) rfl
set_option maxRecDepth 20000 in
theorem u217_948 {x0 x1 x2 x3 : Option Value} {a0 : Nat} {a1 : Int32} (h1 : a0 < M.1) (h2 : (zk_sh a0).1 = 0) (h3 : (zk_sh a0).2.1 = 0) : zk_R sc (d + 1) 217 948 [x0, x1, x2, x3] [.int a1, .ref a0] M P = zk_R sc d 43 0 [some (.ref a0), some (.int a1), none, none, none] [] M (fun r M' => zk_R sc (d + 1) 217 951 [x0, x1, x2, x3] (r.toList ++ []) M' P) := zr_iv (as := [.int a1]) (rest := []) um217 (rfl : zk_lk zm_217.2.2.2.2.2 948 = some (.invokevirtual 127)) rfl (rfl : zk_mt 43 = some zm_43) rfl rfl rfl rfl rfl h1 h2 h3
set_option maxRecDepth 20000 in
theorem u217_951 {x0 x1 x3 : Option Value} {v : Nat} : zk_R sc d 217 951 [x0, x1, some (.ref v), x3] st M P = zk_R sc d 217 952 [x0, x1, some (.ref v), x3] (.ref v :: st) M P := zk_R_nx um217 (rfl : zk_lk zm_217.2.2.2.2.2 951 = some (.aload_n 2)) rfl
set_option maxRecDepth 20000 in
theorem u217_952 {x1 x2 x3 : Option Value} {v : Nat} : zk_R sc d 217 952 [some (.ref v), x1, x2, x3] st M P = zk_R sc d 217 953 [some (.ref v), x1, x2, x3] (.ref v :: st) M P := zk_R_nx um217 (rfl : zk_lk zm_217.2.2.2.2.2 952 = some (.aload_n 0)) rfl
set_option maxRecDepth 20000 in
theorem u217_953 {x0 x1 x2 : Option Value} {v : Int32} : zk_R sc d 217 953 [x0, x1, x2, some (.int v)] st M P = zk_R sc d 217 954 [x0, x1, x2, some (.int v)] (.int v :: st) M P := zk_R_nx um217 (rfl : zk_lk zm_217.2.2.2.2.2 953 = some (.iload_n 3)) rfl
set_option maxRecDepth 20000 in
theorem u217_954 {x0 x1 x2 x3 : Option Value} : zk_R sc d 217 954 [x0, x1, x2, x3] st M P = zk_R sc d 217 955 [x0, x1, x2, x3] (.int 1 :: st) M P := zr_iconst um217 (rfl : zk_lk zm_217.2.2.2.2.2 954 = some (.iconst 1)) (by decide)
set_option maxRecDepth 20000 in
theorem u217_955 {x0 x1 x2 x3 : Option Value} {v w : Int32} : zk_R sc d 217 955 [x0, x1, x2, x3] (.int w :: .int v :: st) M P = zk_R sc d 217 956 [x0, x1, x2, x3] (.int (v + w) :: st) M P := zk_R_nx um217 (rfl : zk_lk zm_217.2.2.2.2.2 955 = some (.iadd)) rfl
set_option maxRecDepth 20000 in
theorem u217_957 {x0 x1 x2 x3 : Option Value} {a0 : Nat} {a1 : Int32} {r0 : Int32} (h1 : a0 < M.1) (h2 : (zk_sh a0).1 = 0) (h3 : (zk_sh a0).2.1 = 6) : zk_R sc (d + 1) 217 957 [x0, x1, x2, x3] [.int a1, .ref a0, .int r0] M P = zk_R sc d 198 0 [some (.ref a0), some (.int a1), none, none, none, none] [] M (fun r M' => zk_R sc (d + 1) 217 960 [x0, x1, x2, x3] (r.toList ++ [.int r0]) M' P) := zr_iv (as := [.int a1]) (rest := [.int r0]) um217 (rfl : zk_lk zm_217.2.2.2.2.2 957 = some (.invokevirtual 130)) rfl (rfl : zk_mt 198 = some zm_198) rfl rfl rfl rfl rfl h1 h2 h3
set_option maxRecDepth 20000 in
theorem u217_960 {x0 x1 x2 x3 : Option Value} {x y : Int32} : zk_R sc d 217 960 [x0, x1, x2, x3] (.int y :: .int x :: st) M P = if x = y then zk_R sc d 217 1412 [x0, x1, x2, x3] st M P else zk_R sc d 217 963 [x0, x1, x2, x3] st M P := zr_ic_eq um217 (rfl : zk_lk zm_217.2.2.2.2.2 960 = some (.if_icmp .eq (452))) (by decide)
set_option maxRecDepth 20000 in
theorem u217_963 {x0 x1 x2 x3 : Option Value} : zk_R sc d 217 963 [x0, x1, x2, x3] st M P = zk_R sc d 217 964 [x0, x1, x2, x3] (.int 0 :: st) M P := zr_iconst um217 (rfl : zk_lk zm_217.2.2.2.2.2 963 = some (.iconst 0)) (by decide)
set_option maxRecDepth 20000 in
theorem u217_964 {x0 x1 x2 x3 : Option Value} {v : Int32} : zk_R sc d 217 964 [x0, x1, x2, x3] [.int v] M P = ((v = 0 ∨ v = 1) ∧ P (some (.int v)) M) := zr_retb um217 (rfl : zk_lk zm_217.2.2.2.2.2 964 = some (.ireturn)) rfl
set_option maxRecDepth 20000 in
theorem u217_965 {x0 x2 x3 : Option Value} {v : Nat} : zk_R sc d 217 965 [x0, some (.ref v), x2, x3] st M P = zk_R sc d 217 966 [x0, some (.ref v), x2, x3] (.ref v :: st) M P := zk_R_nx um217 (rfl : zk_lk zm_217.2.2.2.2.2 965 = some (.aload_n 1)) rfl
set_option maxRecDepth 20000 in
theorem u217_966 {x1 x2 x3 : Option Value} {v : Nat} : zk_R sc d 217 966 [some (.ref v), x1, x2, x3] st M P = zk_R sc d 217 967 [some (.ref v), x1, x2, x3] (.ref v :: st) M P := zk_R_nx um217 (rfl : zk_lk zm_217.2.2.2.2.2 966 = some (.aload_n 0)) rfl
set_option maxRecDepth 20000 in
theorem u217_967 {x0 x1 x2 : Option Value} {v : Int32} : zk_R sc d 217 967 [x0, x1, x2, some (.int v)] st M P = zk_R sc d 217 968 [x0, x1, x2, some (.int v)] (.int v :: st) M P := zk_R_nx um217 (rfl : zk_lk zm_217.2.2.2.2.2 967 = some (.iload_n 3)) rfl
set_option maxRecDepth 20000 in
theorem u217_968 {x0 x1 x2 x3 : Option Value} : zk_R sc d 217 968 [x0, x1, x2, x3] st M P = zk_R sc d 217 969 [x0, x1, x2, x3] (.int 1 :: st) M P := zr_iconst um217 (rfl : zk_lk zm_217.2.2.2.2.2 968 = some (.iconst 1)) (by decide)
set_option maxRecDepth 20000 in
theorem u217_969 {x0 x1 x2 x3 : Option Value} {v w : Int32} : zk_R sc d 217 969 [x0, x1, x2, x3] (.int w :: .int v :: st) M P = zk_R sc d 217 970 [x0, x1, x2, x3] (.int (v + w) :: st) M P := zk_R_nx um217 (rfl : zk_lk zm_217.2.2.2.2.2 969 = some (.iadd)) rfl
set_option maxRecDepth 20000 in
theorem u217_971 {x1 x2 x3 : Option Value} {v : Nat} : zk_R sc d 217 971 [some (.ref v), x1, x2, x3] st M P = zk_R sc d 217 972 [some (.ref v), x1, x2, x3] (.ref v :: st) M P := zk_R_nx um217 (rfl : zk_lk zm_217.2.2.2.2.2 971 = some (.aload_n 0)) rfl
set_option maxRecDepth 20000 in
theorem u217_972 {x0 x1 x2 : Option Value} {v : Int32} : zk_R sc d 217 972 [x0, x1, x2, some (.int v)] st M P = zk_R sc d 217 973 [x0, x1, x2, some (.int v)] (.int v :: st) M P := zk_R_nx um217 (rfl : zk_lk zm_217.2.2.2.2.2 972 = some (.iload_n 3)) rfl
set_option maxRecDepth 20000 in
theorem u217_973 {x0 x1 x2 x3 : Option Value} : zk_R sc d 217 973 [x0, x1, x2, x3] st M P = zk_R sc d 217 974 [x0, x1, x2, x3] (.int 2 :: st) M P := zr_iconst um217 (rfl : zk_lk zm_217.2.2.2.2.2 973 = some (.iconst 2)) (by decide)
set_option maxRecDepth 20000 in
theorem u217_974 {x0 x1 x2 x3 : Option Value} {v w : Int32} : zk_R sc d 217 974 [x0, x1, x2, x3] (.int w :: .int v :: st) M P = zk_R sc d 217 975 [x0, x1, x2, x3] (.int (v + w) :: st) M P := zk_R_nx um217 (rfl : zk_lk zm_217.2.2.2.2.2 974 = some (.iadd)) rfl
set_option maxRecDepth 20000 in
theorem u217_976 {x1 x2 x3 : Option Value} {v : Nat} : zk_R sc d 217 976 [some (.ref v), x1, x2, x3] st M P = zk_R sc d 217 977 [some (.ref v), x1, x2, x3] (.ref v :: st) M P := zk_R_nx um217 (rfl : zk_lk zm_217.2.2.2.2.2 976 = some (.aload_n 0)) rfl
set_option maxRecDepth 20000 in
theorem u217_977 {x0 x1 x2 : Option Value} {v : Int32} : zk_R sc d 217 977 [x0, x1, x2, some (.int v)] st M P = zk_R sc d 217 978 [x0, x1, x2, some (.int v)] (.int v :: st) M P := zk_R_nx um217 (rfl : zk_lk zm_217.2.2.2.2.2 977 = some (.iload_n 3)) rfl
set_option maxRecDepth 20000 in
theorem u217_978 {x0 x1 x2 x3 : Option Value} : zk_R sc d 217 978 [x0, x1, x2, x3] st M P = zk_R sc d 217 979 [x0, x1, x2, x3] (.int 3 :: st) M P := zr_iconst um217 (rfl : zk_lk zm_217.2.2.2.2.2 978 = some (.iconst 3)) (by decide)
set_option maxRecDepth 20000 in
theorem u217_979 {x0 x1 x2 x3 : Option Value} {v w : Int32} : zk_R sc d 217 979 [x0, x1, x2, x3] (.int w :: .int v :: st) M P = zk_R sc d 217 980 [x0, x1, x2, x3] (.int (v + w) :: st) M P := zk_R_nx um217 (rfl : zk_lk zm_217.2.2.2.2.2 979 = some (.iadd)) rfl
set_option maxRecDepth 20000 in
theorem u217_981 {x0 x1 x2 x3 : Option Value} {a0 : Nat} {a1 : Int32} {a2 : Int32} {a3 : Int32} (h1 : a0 < M.1) (h2 : (zk_sh a0).1 = 0) (h3 : (zk_sh a0).2.1 = 0) : zk_R sc (d + 1) 217 981 [x0, x1, x2, x3] [.int a3, .int a2, .int a1, .ref a0] M P = zk_R sc d 44 0 [some (.ref a0), some (.int a1), some (.int a2), some (.int a3), none, none] [] M (fun r M' => zk_R sc (d + 1) 217 984 [x0, x1, x2, x3] (r.toList ++ []) M' P) := zr_iv (as := [.int a1, .int a2, .int a3]) (rest := []) um217 (rfl : zk_lk zm_217.2.2.2.2.2 981 = some (.invokevirtual 131)) rfl (rfl : zk_mt 44 = some zm_44) rfl rfl rfl rfl rfl h1 h2 h3
set_option maxRecDepth 20000 in
theorem u217_984 {x0 x1 x3 : Option Value} {v : Nat} : zk_R sc d 217 984 [x0, x1, some (.ref v), x3] st M P = zk_R sc d 217 985 [x0, x1, some (.ref v), x3] (.ref v :: st) M P := zk_R_nx um217 (rfl : zk_lk zm_217.2.2.2.2.2 984 = some (.aload_n 2)) rfl
set_option maxRecDepth 20000 in
theorem u217_985 {x1 x2 x3 : Option Value} {v : Nat} : zk_R sc d 217 985 [some (.ref v), x1, x2, x3] st M P = zk_R sc d 217 986 [some (.ref v), x1, x2, x3] (.ref v :: st) M P := zk_R_nx um217 (rfl : zk_lk zm_217.2.2.2.2.2 985 = some (.aload_n 0)) rfl
set_option maxRecDepth 20000 in
theorem u217_986 {x0 x1 x2 : Option Value} {v : Int32} : zk_R sc d 217 986 [x0, x1, x2, some (.int v)] st M P = zk_R sc d 217 987 [x0, x1, x2, some (.int v)] (.int v :: st) M P := zk_R_nx um217 (rfl : zk_lk zm_217.2.2.2.2.2 986 = some (.iload_n 3)) rfl
set_option maxRecDepth 20000 in
theorem u217_987 {x0 x1 x2 x3 : Option Value} : zk_R sc d 217 987 [x0, x1, x2, x3] st M P = zk_R sc d 217 988 [x0, x1, x2, x3] (.int 1 :: st) M P := zr_iconst um217 (rfl : zk_lk zm_217.2.2.2.2.2 987 = some (.iconst 1)) (by decide)
set_option maxRecDepth 20000 in
theorem u217_988 {x0 x1 x2 x3 : Option Value} {v w : Int32} : zk_R sc d 217 988 [x0, x1, x2, x3] (.int w :: .int v :: st) M P = zk_R sc d 217 989 [x0, x1, x2, x3] (.int (v + w) :: st) M P := zk_R_nx um217 (rfl : zk_lk zm_217.2.2.2.2.2 988 = some (.iadd)) rfl
set_option maxRecDepth 20000 in
theorem u217_990 {x1 x2 x3 : Option Value} {v : Nat} : zk_R sc d 217 990 [some (.ref v), x1, x2, x3] st M P = zk_R sc d 217 991 [some (.ref v), x1, x2, x3] (.ref v :: st) M P := zk_R_nx um217 (rfl : zk_lk zm_217.2.2.2.2.2 990 = some (.aload_n 0)) rfl
set_option maxRecDepth 20000 in
theorem u217_991 {x0 x1 x2 : Option Value} {v : Int32} : zk_R sc d 217 991 [x0, x1, x2, some (.int v)] st M P = zk_R sc d 217 992 [x0, x1, x2, some (.int v)] (.int v :: st) M P := zk_R_nx um217 (rfl : zk_lk zm_217.2.2.2.2.2 991 = some (.iload_n 3)) rfl
set_option maxRecDepth 20000 in
theorem u217_992 {x0 x1 x2 x3 : Option Value} : zk_R sc d 217 992 [x0, x1, x2, x3] st M P = zk_R sc d 217 993 [x0, x1, x2, x3] (.int 2 :: st) M P := zr_iconst um217 (rfl : zk_lk zm_217.2.2.2.2.2 992 = some (.iconst 2)) (by decide)
set_option maxRecDepth 20000 in
theorem u217_993 {x0 x1 x2 x3 : Option Value} {v w : Int32} : zk_R sc d 217 993 [x0, x1, x2, x3] (.int w :: .int v :: st) M P = zk_R sc d 217 994 [x0, x1, x2, x3] (.int (v + w) :: st) M P := zk_R_nx um217 (rfl : zk_lk zm_217.2.2.2.2.2 993 = some (.iadd)) rfl
set_option maxRecDepth 20000 in
theorem u217_995 {x1 x2 x3 : Option Value} {v : Nat} : zk_R sc d 217 995 [some (.ref v), x1, x2, x3] st M P = zk_R sc d 217 996 [some (.ref v), x1, x2, x3] (.ref v :: st) M P := zk_R_nx um217 (rfl : zk_lk zm_217.2.2.2.2.2 995 = some (.aload_n 0)) rfl
set_option maxRecDepth 20000 in
theorem u217_996 {x0 x1 x2 : Option Value} {v : Int32} : zk_R sc d 217 996 [x0, x1, x2, some (.int v)] st M P = zk_R sc d 217 997 [x0, x1, x2, some (.int v)] (.int v :: st) M P := zk_R_nx um217 (rfl : zk_lk zm_217.2.2.2.2.2 996 = some (.iload_n 3)) rfl
set_option maxRecDepth 20000 in
theorem u217_997 {x0 x1 x2 x3 : Option Value} : zk_R sc d 217 997 [x0, x1, x2, x3] st M P = zk_R sc d 217 998 [x0, x1, x2, x3] (.int 3 :: st) M P := zr_iconst um217 (rfl : zk_lk zm_217.2.2.2.2.2 997 = some (.iconst 3)) (by decide)
set_option maxRecDepth 20000 in
theorem u217_998 {x0 x1 x2 x3 : Option Value} {v w : Int32} : zk_R sc d 217 998 [x0, x1, x2, x3] (.int w :: .int v :: st) M P = zk_R sc d 217 999 [x0, x1, x2, x3] (.int (v + w) :: st) M P := zk_R_nx um217 (rfl : zk_lk zm_217.2.2.2.2.2 998 = some (.iadd)) rfl
set_option maxRecDepth 20000 in
theorem u217_1000 {x0 x1 x2 x3 : Option Value} {a0 : Nat} {a1 : Int32} {a2 : Int32} {a3 : Int32} {r0 : Int32} (h1 : a0 < M.1) (h2 : (zk_sh a0).1 = 0) (h3 : (zk_sh a0).2.1 = 6) : zk_R sc (d + 1) 217 1000 [x0, x1, x2, x3] [.int a3, .int a2, .int a1, .ref a0, .int r0] M P = zk_R sc d 199 0 [some (.ref a0), some (.int a1), some (.int a2), some (.int a3), none, none] [] M (fun r M' => zk_R sc (d + 1) 217 1003 [x0, x1, x2, x3] (r.toList ++ [.int r0]) M' P) := zr_iv (as := [.int a1, .int a2, .int a3]) (rest := [.int r0]) um217 (rfl : zk_lk zm_217.2.2.2.2.2 1000 = some (.invokevirtual 134)) rfl (rfl : zk_mt 199 = some zm_199) rfl rfl rfl rfl rfl h1 h2 h3
set_option maxRecDepth 20000 in
theorem u217_1003 {x0 x1 x2 x3 : Option Value} {x y : Int32} : zk_R sc d 217 1003 [x0, x1, x2, x3] (.int y :: .int x :: st) M P = if x = y then zk_R sc d 217 1412 [x0, x1, x2, x3] st M P else zk_R sc d 217 1006 [x0, x1, x2, x3] st M P := zr_ic_eq um217 (rfl : zk_lk zm_217.2.2.2.2.2 1003 = some (.if_icmp .eq (409))) (by decide)
set_option maxRecDepth 20000 in
theorem u217_1006 {x0 x1 x2 x3 : Option Value} : zk_R sc d 217 1006 [x0, x1, x2, x3] st M P = zk_R sc d 217 1007 [x0, x1, x2, x3] (.int 0 :: st) M P := zr_iconst um217 (rfl : zk_lk zm_217.2.2.2.2.2 1006 = some (.iconst 0)) (by decide)
set_option maxRecDepth 20000 in
theorem u217_1007 {x0 x1 x2 x3 : Option Value} {v : Int32} : zk_R sc d 217 1007 [x0, x1, x2, x3] [.int v] M P = ((v = 0 ∨ v = 1) ∧ P (some (.int v)) M) := zr_retb um217 (rfl : zk_lk zm_217.2.2.2.2.2 1007 = some (.ireturn)) rfl
set_option maxRecDepth 20000 in
theorem u217_1008 {x0 x2 x3 : Option Value} {v : Nat} : zk_R sc d 217 1008 [x0, some (.ref v), x2, x3] st M P = zk_R sc d 217 1009 [x0, some (.ref v), x2, x3] (.ref v :: st) M P := zk_R_nx um217 (rfl : zk_lk zm_217.2.2.2.2.2 1008 = some (.aload_n 1)) rfl
set_option maxRecDepth 20000 in
theorem u217_1009 {x1 x2 x3 : Option Value} {v : Nat} : zk_R sc d 217 1009 [some (.ref v), x1, x2, x3] st M P = zk_R sc d 217 1010 [some (.ref v), x1, x2, x3] (.ref v :: st) M P := zk_R_nx um217 (rfl : zk_lk zm_217.2.2.2.2.2 1009 = some (.aload_n 0)) rfl
set_option maxRecDepth 20000 in
theorem u217_1010 {x0 x1 x2 : Option Value} {v : Int32} : zk_R sc d 217 1010 [x0, x1, x2, some (.int v)] st M P = zk_R sc d 217 1011 [x0, x1, x2, some (.int v)] (.int v :: st) M P := zk_R_nx um217 (rfl : zk_lk zm_217.2.2.2.2.2 1010 = some (.iload_n 3)) rfl
set_option maxRecDepth 20000 in
theorem u217_1011 {x0 x1 x2 x3 : Option Value} : zk_R sc d 217 1011 [x0, x1, x2, x3] st M P = zk_R sc d 217 1012 [x0, x1, x2, x3] (.int 1 :: st) M P := zr_iconst um217 (rfl : zk_lk zm_217.2.2.2.2.2 1011 = some (.iconst 1)) (by decide)
set_option maxRecDepth 20000 in
theorem u217_1012 {x0 x1 x2 x3 : Option Value} {v w : Int32} : zk_R sc d 217 1012 [x0, x1, x2, x3] (.int w :: .int v :: st) M P = zk_R sc d 217 1013 [x0, x1, x2, x3] (.int (v + w) :: st) M P := zk_R_nx um217 (rfl : zk_lk zm_217.2.2.2.2.2 1012 = some (.iadd)) rfl
set_option maxRecDepth 20000 in
theorem u217_1014 {x1 x2 x3 : Option Value} {v : Nat} : zk_R sc d 217 1014 [some (.ref v), x1, x2, x3] st M P = zk_R sc d 217 1015 [some (.ref v), x1, x2, x3] (.ref v :: st) M P := zk_R_nx um217 (rfl : zk_lk zm_217.2.2.2.2.2 1014 = some (.aload_n 0)) rfl
set_option maxRecDepth 20000 in
theorem u217_1015 {x0 x1 x2 : Option Value} {v : Int32} : zk_R sc d 217 1015 [x0, x1, x2, some (.int v)] st M P = zk_R sc d 217 1016 [x0, x1, x2, some (.int v)] (.int v :: st) M P := zk_R_nx um217 (rfl : zk_lk zm_217.2.2.2.2.2 1015 = some (.iload_n 3)) rfl
set_option maxRecDepth 20000 in
theorem u217_1016 {x0 x1 x2 x3 : Option Value} : zk_R sc d 217 1016 [x0, x1, x2, x3] st M P = zk_R sc d 217 1017 [x0, x1, x2, x3] (.int 2 :: st) M P := zr_iconst um217 (rfl : zk_lk zm_217.2.2.2.2.2 1016 = some (.iconst 2)) (by decide)
set_option maxRecDepth 20000 in
theorem u217_1017 {x0 x1 x2 x3 : Option Value} {v w : Int32} : zk_R sc d 217 1017 [x0, x1, x2, x3] (.int w :: .int v :: st) M P = zk_R sc d 217 1018 [x0, x1, x2, x3] (.int (v + w) :: st) M P := zk_R_nx um217 (rfl : zk_lk zm_217.2.2.2.2.2 1017 = some (.iadd)) rfl
set_option maxRecDepth 20000 in
theorem u217_1019 {x0 x1 x2 x3 : Option Value} {a0 : Nat} {a1 : Int32} {a2 : Int32} (h1 : a0 < M.1) (h2 : (zk_sh a0).1 = 0) (h3 : (zk_sh a0).2.1 = 0) : zk_R sc (d + 1) 217 1019 [x0, x1, x2, x3] [.int a2, .int a1, .ref a0] M P = zk_R sc d 45 0 [some (.ref a0), some (.int a1), some (.int a2), none, none, none, none] [] M (fun r M' => zk_R sc (d + 1) 217 1022 [x0, x1, x2, x3] (r.toList ++ []) M' P) := zr_iv (as := [.int a1, .int a2]) (rest := []) um217 (rfl : zk_lk zm_217.2.2.2.2.2 1019 = some (.invokevirtual 135)) rfl (rfl : zk_mt 45 = some zm_45) rfl rfl rfl rfl rfl h1 h2 h3
set_option maxRecDepth 20000 in
theorem u217_1022 {x0 x1 x3 : Option Value} {v : Nat} : zk_R sc d 217 1022 [x0, x1, some (.ref v), x3] st M P = zk_R sc d 217 1023 [x0, x1, some (.ref v), x3] (.ref v :: st) M P := zk_R_nx um217 (rfl : zk_lk zm_217.2.2.2.2.2 1022 = some (.aload_n 2)) rfl
set_option maxRecDepth 20000 in
theorem u217_1023 {x1 x2 x3 : Option Value} {v : Nat} : zk_R sc d 217 1023 [some (.ref v), x1, x2, x3] st M P = zk_R sc d 217 1024 [some (.ref v), x1, x2, x3] (.ref v :: st) M P := zk_R_nx um217 (rfl : zk_lk zm_217.2.2.2.2.2 1023 = some (.aload_n 0)) rfl
set_option maxRecDepth 20000 in
theorem u217_1024 {x0 x1 x2 : Option Value} {v : Int32} : zk_R sc d 217 1024 [x0, x1, x2, some (.int v)] st M P = zk_R sc d 217 1025 [x0, x1, x2, some (.int v)] (.int v :: st) M P := zk_R_nx um217 (rfl : zk_lk zm_217.2.2.2.2.2 1024 = some (.iload_n 3)) rfl
set_option maxRecDepth 20000 in
theorem u217_1025 {x0 x1 x2 x3 : Option Value} : zk_R sc d 217 1025 [x0, x1, x2, x3] st M P = zk_R sc d 217 1026 [x0, x1, x2, x3] (.int 1 :: st) M P := zr_iconst um217 (rfl : zk_lk zm_217.2.2.2.2.2 1025 = some (.iconst 1)) (by decide)
set_option maxRecDepth 20000 in
theorem u217_1026 {x0 x1 x2 x3 : Option Value} {v w : Int32} : zk_R sc d 217 1026 [x0, x1, x2, x3] (.int w :: .int v :: st) M P = zk_R sc d 217 1027 [x0, x1, x2, x3] (.int (v + w) :: st) M P := zk_R_nx um217 (rfl : zk_lk zm_217.2.2.2.2.2 1026 = some (.iadd)) rfl
set_option maxRecDepth 20000 in
theorem u217_1028 {x1 x2 x3 : Option Value} {v : Nat} : zk_R sc d 217 1028 [some (.ref v), x1, x2, x3] st M P = zk_R sc d 217 1029 [some (.ref v), x1, x2, x3] (.ref v :: st) M P := zk_R_nx um217 (rfl : zk_lk zm_217.2.2.2.2.2 1028 = some (.aload_n 0)) rfl
set_option maxRecDepth 20000 in
theorem u217_1029 {x0 x1 x2 : Option Value} {v : Int32} : zk_R sc d 217 1029 [x0, x1, x2, some (.int v)] st M P = zk_R sc d 217 1030 [x0, x1, x2, some (.int v)] (.int v :: st) M P := zk_R_nx um217 (rfl : zk_lk zm_217.2.2.2.2.2 1029 = some (.iload_n 3)) rfl
set_option maxRecDepth 20000 in
theorem u217_1030 {x0 x1 x2 x3 : Option Value} : zk_R sc d 217 1030 [x0, x1, x2, x3] st M P = zk_R sc d 217 1031 [x0, x1, x2, x3] (.int 2 :: st) M P := zr_iconst um217 (rfl : zk_lk zm_217.2.2.2.2.2 1030 = some (.iconst 2)) (by decide)
set_option maxRecDepth 20000 in
theorem u217_1031 {x0 x1 x2 x3 : Option Value} {v w : Int32} : zk_R sc d 217 1031 [x0, x1, x2, x3] (.int w :: .int v :: st) M P = zk_R sc d 217 1032 [x0, x1, x2, x3] (.int (v + w) :: st) M P := zk_R_nx um217 (rfl : zk_lk zm_217.2.2.2.2.2 1031 = some (.iadd)) rfl
set_option maxRecDepth 20000 in
theorem u217_1033 {x0 x1 x2 x3 : Option Value} {a0 : Nat} {a1 : Int32} {a2 : Int32} {r0 : Int32} (h1 : a0 < M.1) (h2 : (zk_sh a0).1 = 0) (h3 : (zk_sh a0).2.1 = 6) : zk_R sc (d + 1) 217 1033 [x0, x1, x2, x3] [.int a2, .int a1, .ref a0, .int r0] M P = zk_R sc d 200 0 [some (.ref a0), some (.int a1), some (.int a2), none, none, none, none] [] M (fun r M' => zk_R sc (d + 1) 217 1036 [x0, x1, x2, x3] (r.toList ++ [.int r0]) M' P) := zr_iv (as := [.int a1, .int a2]) (rest := [.int r0]) um217 (rfl : zk_lk zm_217.2.2.2.2.2 1033 = some (.invokevirtual 138)) rfl (rfl : zk_mt 200 = some zm_200) rfl rfl rfl rfl rfl h1 h2 h3
set_option maxRecDepth 20000 in
theorem u217_1036 {x0 x1 x2 x3 : Option Value} {x y : Int32} : zk_R sc d 217 1036 [x0, x1, x2, x3] (.int y :: .int x :: st) M P = if x = y then zk_R sc d 217 1412 [x0, x1, x2, x3] st M P else zk_R sc d 217 1039 [x0, x1, x2, x3] st M P := zr_ic_eq um217 (rfl : zk_lk zm_217.2.2.2.2.2 1036 = some (.if_icmp .eq (376))) (by decide)
set_option maxRecDepth 20000 in
theorem u217_1039 {x0 x1 x2 x3 : Option Value} : zk_R sc d 217 1039 [x0, x1, x2, x3] st M P = zk_R sc d 217 1040 [x0, x1, x2, x3] (.int 0 :: st) M P := zr_iconst um217 (rfl : zk_lk zm_217.2.2.2.2.2 1039 = some (.iconst 0)) (by decide)
set_option maxRecDepth 20000 in
theorem u217_1040 {x0 x1 x2 x3 : Option Value} {v : Int32} : zk_R sc d 217 1040 [x0, x1, x2, x3] [.int v] M P = ((v = 0 ∨ v = 1) ∧ P (some (.int v)) M) := zr_retb um217 (rfl : zk_lk zm_217.2.2.2.2.2 1040 = some (.ireturn)) rfl
set_option maxRecDepth 20000 in
theorem u217_1041 {x0 x2 x3 : Option Value} {v : Nat} : zk_R sc d 217 1041 [x0, some (.ref v), x2, x3] st M P = zk_R sc d 217 1042 [x0, some (.ref v), x2, x3] (.ref v :: st) M P := zk_R_nx um217 (rfl : zk_lk zm_217.2.2.2.2.2 1041 = some (.aload_n 1)) rfl
set_option maxRecDepth 20000 in
theorem u217_1042 {x1 x2 x3 : Option Value} {v : Nat} : zk_R sc d 217 1042 [some (.ref v), x1, x2, x3] st M P = zk_R sc d 217 1043 [some (.ref v), x1, x2, x3] (.ref v :: st) M P := zk_R_nx um217 (rfl : zk_lk zm_217.2.2.2.2.2 1042 = some (.aload_n 0)) rfl
set_option maxRecDepth 20000 in
theorem u217_1043 {x0 x1 x2 : Option Value} {v : Int32} : zk_R sc d 217 1043 [x0, x1, x2, some (.int v)] st M P = zk_R sc d 217 1044 [x0, x1, x2, some (.int v)] (.int v :: st) M P := zk_R_nx um217 (rfl : zk_lk zm_217.2.2.2.2.2 1043 = some (.iload_n 3)) rfl
set_option maxRecDepth 20000 in
theorem u217_1044 {x0 x1 x2 x3 : Option Value} : zk_R sc d 217 1044 [x0, x1, x2, x3] st M P = zk_R sc d 217 1045 [x0, x1, x2, x3] (.int 1 :: st) M P := zr_iconst um217 (rfl : zk_lk zm_217.2.2.2.2.2 1044 = some (.iconst 1)) (by decide)
set_option maxRecDepth 20000 in
theorem u217_1045 {x0 x1 x2 x3 : Option Value} {v w : Int32} : zk_R sc d 217 1045 [x0, x1, x2, x3] (.int w :: .int v :: st) M P = zk_R sc d 217 1046 [x0, x1, x2, x3] (.int (v + w) :: st) M P := zk_R_nx um217 (rfl : zk_lk zm_217.2.2.2.2.2 1045 = some (.iadd)) rfl
set_option maxRecDepth 20000 in
theorem u217_1047 {x1 x2 x3 : Option Value} {v : Nat} : zk_R sc d 217 1047 [some (.ref v), x1, x2, x3] st M P = zk_R sc d 217 1048 [some (.ref v), x1, x2, x3] (.ref v :: st) M P := zk_R_nx um217 (rfl : zk_lk zm_217.2.2.2.2.2 1047 = some (.aload_n 0)) rfl
set_option maxRecDepth 20000 in
theorem u217_1048 {x0 x1 x2 : Option Value} {v : Int32} : zk_R sc d 217 1048 [x0, x1, x2, some (.int v)] st M P = zk_R sc d 217 1049 [x0, x1, x2, some (.int v)] (.int v :: st) M P := zk_R_nx um217 (rfl : zk_lk zm_217.2.2.2.2.2 1048 = some (.iload_n 3)) rfl
set_option maxRecDepth 20000 in
theorem u217_1049 {x0 x1 x2 x3 : Option Value} : zk_R sc d 217 1049 [x0, x1, x2, x3] st M P = zk_R sc d 217 1050 [x0, x1, x2, x3] (.int 2 :: st) M P := zr_iconst um217 (rfl : zk_lk zm_217.2.2.2.2.2 1049 = some (.iconst 2)) (by decide)
set_option maxRecDepth 20000 in
theorem u217_1050 {x0 x1 x2 x3 : Option Value} {v w : Int32} : zk_R sc d 217 1050 [x0, x1, x2, x3] (.int w :: .int v :: st) M P = zk_R sc d 217 1051 [x0, x1, x2, x3] (.int (v + w) :: st) M P := zk_R_nx um217 (rfl : zk_lk zm_217.2.2.2.2.2 1050 = some (.iadd)) rfl
set_option maxRecDepth 20000 in
theorem u217_1052 {x0 x1 x2 x3 : Option Value} {a0 : Nat} {a1 : Int32} {a2 : Int32} (h1 : a0 < M.1) (h2 : (zk_sh a0).1 = 0) (h3 : (zk_sh a0).2.1 = 0) : zk_R sc (d + 1) 217 1052 [x0, x1, x2, x3] [.int a2, .int a1, .ref a0] M P = zk_R sc d 46 0 [some (.ref a0), some (.int a1), some (.int a2), none] [] M (fun r M' => zk_R sc (d + 1) 217 1055 [x0, x1, x2, x3] (r.toList ++ []) M' P) := zr_iv (as := [.int a1, .int a2]) (rest := []) um217 (rfl : zk_lk zm_217.2.2.2.2.2 1052 = some (.invokevirtual 139)) rfl (rfl : zk_mt 46 = some zm_46) rfl rfl rfl rfl rfl h1 h2 h3
set_option maxRecDepth 20000 in
theorem u217_1055 {x0 x1 x3 : Option Value} {v : Nat} : zk_R sc d 217 1055 [x0, x1, some (.ref v), x3] st M P = zk_R sc d 217 1056 [x0, x1, some (.ref v), x3] (.ref v :: st) M P := zk_R_nx um217 (rfl : zk_lk zm_217.2.2.2.2.2 1055 = some (.aload_n 2)) rfl
set_option maxRecDepth 20000 in
theorem u217_1056 {x1 x2 x3 : Option Value} {v : Nat} : zk_R sc d 217 1056 [some (.ref v), x1, x2, x3] st M P = zk_R sc d 217 1057 [some (.ref v), x1, x2, x3] (.ref v :: st) M P := zk_R_nx um217 (rfl : zk_lk zm_217.2.2.2.2.2 1056 = some (.aload_n 0)) rfl
set_option maxRecDepth 20000 in
theorem u217_1057 {x0 x1 x2 : Option Value} {v : Int32} : zk_R sc d 217 1057 [x0, x1, x2, some (.int v)] st M P = zk_R sc d 217 1058 [x0, x1, x2, some (.int v)] (.int v :: st) M P := zk_R_nx um217 (rfl : zk_lk zm_217.2.2.2.2.2 1057 = some (.iload_n 3)) rfl
set_option maxRecDepth 20000 in
theorem u217_1058 {x0 x1 x2 x3 : Option Value} : zk_R sc d 217 1058 [x0, x1, x2, x3] st M P = zk_R sc d 217 1059 [x0, x1, x2, x3] (.int 1 :: st) M P := zr_iconst um217 (rfl : zk_lk zm_217.2.2.2.2.2 1058 = some (.iconst 1)) (by decide)
set_option maxRecDepth 20000 in
theorem u217_1059 {x0 x1 x2 x3 : Option Value} {v w : Int32} : zk_R sc d 217 1059 [x0, x1, x2, x3] (.int w :: .int v :: st) M P = zk_R sc d 217 1060 [x0, x1, x2, x3] (.int (v + w) :: st) M P := zk_R_nx um217 (rfl : zk_lk zm_217.2.2.2.2.2 1059 = some (.iadd)) rfl
set_option maxRecDepth 20000 in
theorem u217_1061 {x1 x2 x3 : Option Value} {v : Nat} : zk_R sc d 217 1061 [some (.ref v), x1, x2, x3] st M P = zk_R sc d 217 1062 [some (.ref v), x1, x2, x3] (.ref v :: st) M P := zk_R_nx um217 (rfl : zk_lk zm_217.2.2.2.2.2 1061 = some (.aload_n 0)) rfl
set_option maxRecDepth 20000 in
theorem u217_1062 {x0 x1 x2 : Option Value} {v : Int32} : zk_R sc d 217 1062 [x0, x1, x2, some (.int v)] st M P = zk_R sc d 217 1063 [x0, x1, x2, some (.int v)] (.int v :: st) M P := zk_R_nx um217 (rfl : zk_lk zm_217.2.2.2.2.2 1062 = some (.iload_n 3)) rfl
set_option maxRecDepth 20000 in
theorem u217_1063 {x0 x1 x2 x3 : Option Value} : zk_R sc d 217 1063 [x0, x1, x2, x3] st M P = zk_R sc d 217 1064 [x0, x1, x2, x3] (.int 2 :: st) M P := zr_iconst um217 (rfl : zk_lk zm_217.2.2.2.2.2 1063 = some (.iconst 2)) (by decide)
set_option maxRecDepth 20000 in
theorem u217_1064 {x0 x1 x2 x3 : Option Value} {v w : Int32} : zk_R sc d 217 1064 [x0, x1, x2, x3] (.int w :: .int v :: st) M P = zk_R sc d 217 1065 [x0, x1, x2, x3] (.int (v + w) :: st) M P := zk_R_nx um217 (rfl : zk_lk zm_217.2.2.2.2.2 1064 = some (.iadd)) rfl
set_option maxRecDepth 20000 in
theorem u217_1066 {x0 x1 x2 x3 : Option Value} {a0 : Nat} {a1 : Int32} {a2 : Int32} {r0 : Int32} (h1 : a0 < M.1) (h2 : (zk_sh a0).1 = 0) (h3 : (zk_sh a0).2.1 = 6) : zk_R sc (d + 1) 217 1066 [x0, x1, x2, x3] [.int a2, .int a1, .ref a0, .int r0] M P = zk_R sc d 202 0 [some (.ref a0), some (.int a1), some (.int a2), none] [] M (fun r M' => zk_R sc (d + 1) 217 1069 [x0, x1, x2, x3] (r.toList ++ [.int r0]) M' P) := zr_iv (as := [.int a1, .int a2]) (rest := [.int r0]) um217 (rfl : zk_lk zm_217.2.2.2.2.2 1066 = some (.invokevirtual 142)) rfl (rfl : zk_mt 202 = some zm_202) rfl rfl rfl rfl rfl h1 h2 h3
set_option maxRecDepth 20000 in
theorem u217_1069 {x0 x1 x2 x3 : Option Value} {x y : Int32} : zk_R sc d 217 1069 [x0, x1, x2, x3] (.int y :: .int x :: st) M P = if x = y then zk_R sc d 217 1412 [x0, x1, x2, x3] st M P else zk_R sc d 217 1072 [x0, x1, x2, x3] st M P := zr_ic_eq um217 (rfl : zk_lk zm_217.2.2.2.2.2 1069 = some (.if_icmp .eq (343))) (by decide)
set_option maxRecDepth 20000 in
theorem u217_1072 {x0 x1 x2 x3 : Option Value} : zk_R sc d 217 1072 [x0, x1, x2, x3] st M P = zk_R sc d 217 1073 [x0, x1, x2, x3] (.int 0 :: st) M P := zr_iconst um217 (rfl : zk_lk zm_217.2.2.2.2.2 1072 = some (.iconst 0)) (by decide)
set_option maxRecDepth 20000 in
theorem u217_1073 {x0 x1 x2 x3 : Option Value} {v : Int32} : zk_R sc d 217 1073 [x0, x1, x2, x3] [.int v] M P = ((v = 0 ∨ v = 1) ∧ P (some (.int v)) M) := zr_retb um217 (rfl : zk_lk zm_217.2.2.2.2.2 1073 = some (.ireturn)) rfl
set_option maxRecDepth 20000 in
theorem u217_1074 {x0 x2 x3 : Option Value} {v : Nat} : zk_R sc d 217 1074 [x0, some (.ref v), x2, x3] st M P = zk_R sc d 217 1075 [x0, some (.ref v), x2, x3] (.ref v :: st) M P := zk_R_nx um217 (rfl : zk_lk zm_217.2.2.2.2.2 1074 = some (.aload_n 1)) rfl
set_option maxRecDepth 20000 in
theorem u217_1075 {x1 x2 x3 : Option Value} {v : Nat} : zk_R sc d 217 1075 [some (.ref v), x1, x2, x3] st M P = zk_R sc d 217 1076 [some (.ref v), x1, x2, x3] (.ref v :: st) M P := zk_R_nx um217 (rfl : zk_lk zm_217.2.2.2.2.2 1075 = some (.aload_n 0)) rfl
set_option maxRecDepth 20000 in
theorem u217_1076 {x0 x1 x2 : Option Value} {v : Int32} : zk_R sc d 217 1076 [x0, x1, x2, some (.int v)] st M P = zk_R sc d 217 1077 [x0, x1, x2, some (.int v)] (.int v :: st) M P := zk_R_nx um217 (rfl : zk_lk zm_217.2.2.2.2.2 1076 = some (.iload_n 3)) rfl
set_option maxRecDepth 20000 in
theorem u217_1077 {x0 x1 x2 x3 : Option Value} : zk_R sc d 217 1077 [x0, x1, x2, x3] st M P = zk_R sc d 217 1078 [x0, x1, x2, x3] (.int 1 :: st) M P := zr_iconst um217 (rfl : zk_lk zm_217.2.2.2.2.2 1077 = some (.iconst 1)) (by decide)
set_option maxRecDepth 20000 in
theorem u217_1078 {x0 x1 x2 x3 : Option Value} {v w : Int32} : zk_R sc d 217 1078 [x0, x1, x2, x3] (.int w :: .int v :: st) M P = zk_R sc d 217 1079 [x0, x1, x2, x3] (.int (v + w) :: st) M P := zk_R_nx um217 (rfl : zk_lk zm_217.2.2.2.2.2 1078 = some (.iadd)) rfl
set_option maxRecDepth 20000 in
theorem u217_1080 {x0 x1 x2 x3 : Option Value} {a0 : Nat} {a1 : Int32} (h1 : a0 < M.1) (h2 : (zk_sh a0).1 = 0) (h3 : (zk_sh a0).2.1 = 0) : zk_R sc (d + 1) 217 1080 [x0, x1, x2, x3] [.int a1, .ref a0] M P = zk_R sc d 49 0 [some (.ref a0), some (.int a1), none, none] [] M (fun r M' => zk_R sc (d + 1) 217 1083 [x0, x1, x2, x3] (r.toList ++ []) M' P) := zr_iv (as := [.int a1]) (rest := []) um217 (rfl : zk_lk zm_217.2.2.2.2.2 1080 = some (.invokevirtual 143)) rfl (rfl : zk_mt 49 = some zm_49) rfl rfl rfl rfl rfl h1 h2 h3
set_option maxRecDepth 20000 in
theorem u217_1083 {x0 x1 x3 : Option Value} {v : Nat} : zk_R sc d 217 1083 [x0, x1, some (.ref v), x3] st M P = zk_R sc d 217 1084 [x0, x1, some (.ref v), x3] (.ref v :: st) M P := zk_R_nx um217 (rfl : zk_lk zm_217.2.2.2.2.2 1083 = some (.aload_n 2)) rfl
set_option maxRecDepth 20000 in
theorem u217_1084 {x1 x2 x3 : Option Value} {v : Nat} : zk_R sc d 217 1084 [some (.ref v), x1, x2, x3] st M P = zk_R sc d 217 1085 [some (.ref v), x1, x2, x3] (.ref v :: st) M P := zk_R_nx um217 (rfl : zk_lk zm_217.2.2.2.2.2 1084 = some (.aload_n 0)) rfl
set_option maxRecDepth 20000 in
theorem u217_1085 {x0 x1 x2 : Option Value} {v : Int32} : zk_R sc d 217 1085 [x0, x1, x2, some (.int v)] st M P = zk_R sc d 217 1086 [x0, x1, x2, some (.int v)] (.int v :: st) M P := zk_R_nx um217 (rfl : zk_lk zm_217.2.2.2.2.2 1085 = some (.iload_n 3)) rfl
set_option maxRecDepth 20000 in
theorem u217_1086 {x0 x1 x2 x3 : Option Value} : zk_R sc d 217 1086 [x0, x1, x2, x3] st M P = zk_R sc d 217 1087 [x0, x1, x2, x3] (.int 1 :: st) M P := zr_iconst um217 (rfl : zk_lk zm_217.2.2.2.2.2 1086 = some (.iconst 1)) (by decide)
set_option maxRecDepth 20000 in
theorem u217_1087 {x0 x1 x2 x3 : Option Value} {v w : Int32} : zk_R sc d 217 1087 [x0, x1, x2, x3] (.int w :: .int v :: st) M P = zk_R sc d 217 1088 [x0, x1, x2, x3] (.int (v + w) :: st) M P := zk_R_nx um217 (rfl : zk_lk zm_217.2.2.2.2.2 1087 = some (.iadd)) rfl
set_option maxRecDepth 20000 in
theorem u217_1089 {x0 x1 x2 x3 : Option Value} {a0 : Nat} {a1 : Int32} {r0 : Int32} (h1 : a0 < M.1) (h2 : (zk_sh a0).1 = 0) (h3 : (zk_sh a0).2.1 = 6) : zk_R sc (d + 1) 217 1089 [x0, x1, x2, x3] [.int a1, .ref a0, .int r0] M P = zk_R sc d 205 0 [some (.ref a0), some (.int a1), none, none] [] M (fun r M' => zk_R sc (d + 1) 217 1092 [x0, x1, x2, x3] (r.toList ++ [.int r0]) M' P) := zr_iv (as := [.int a1]) (rest := [.int r0]) um217 (rfl : zk_lk zm_217.2.2.2.2.2 1089 = some (.invokevirtual 146)) rfl (rfl : zk_mt 205 = some zm_205) rfl rfl rfl rfl rfl h1 h2 h3
set_option maxRecDepth 20000 in
theorem u217_1092 {x0 x1 x2 x3 : Option Value} {x y : Int32} : zk_R sc d 217 1092 [x0, x1, x2, x3] (.int y :: .int x :: st) M P = if x = y then zk_R sc d 217 1412 [x0, x1, x2, x3] st M P else zk_R sc d 217 1095 [x0, x1, x2, x3] st M P := zr_ic_eq um217 (rfl : zk_lk zm_217.2.2.2.2.2 1092 = some (.if_icmp .eq (320))) (by decide)
set_option maxRecDepth 20000 in
theorem u217_1095 {x0 x1 x2 x3 : Option Value} : zk_R sc d 217 1095 [x0, x1, x2, x3] st M P = zk_R sc d 217 1096 [x0, x1, x2, x3] (.int 0 :: st) M P := zr_iconst um217 (rfl : zk_lk zm_217.2.2.2.2.2 1095 = some (.iconst 0)) (by decide)
set_option maxRecDepth 20000 in
theorem u217_1096 {x0 x1 x2 x3 : Option Value} {v : Int32} : zk_R sc d 217 1096 [x0, x1, x2, x3] [.int v] M P = ((v = 0 ∨ v = 1) ∧ P (some (.int v)) M) := zr_retb um217 (rfl : zk_lk zm_217.2.2.2.2.2 1096 = some (.ireturn)) rfl
set_option maxRecDepth 20000 in
theorem u217_1097 {x0 x2 x3 : Option Value} {v : Nat} : zk_R sc d 217 1097 [x0, some (.ref v), x2, x3] st M P = zk_R sc d 217 1098 [x0, some (.ref v), x2, x3] (.ref v :: st) M P := zk_R_nx um217 (rfl : zk_lk zm_217.2.2.2.2.2 1097 = some (.aload_n 1)) rfl
set_option maxRecDepth 20000 in
theorem u217_1098 {x1 x2 x3 : Option Value} {v : Nat} : zk_R sc d 217 1098 [some (.ref v), x1, x2, x3] st M P = zk_R sc d 217 1099 [some (.ref v), x1, x2, x3] (.ref v :: st) M P := zk_R_nx um217 (rfl : zk_lk zm_217.2.2.2.2.2 1098 = some (.aload_n 0)) rfl
set_option maxRecDepth 20000 in
theorem u217_1099 {x0 x1 x2 : Option Value} {v : Int32} : zk_R sc d 217 1099 [x0, x1, x2, some (.int v)] st M P = zk_R sc d 217 1100 [x0, x1, x2, some (.int v)] (.int v :: st) M P := zk_R_nx um217 (rfl : zk_lk zm_217.2.2.2.2.2 1099 = some (.iload_n 3)) rfl
set_option maxRecDepth 20000 in
theorem u217_1100 {x0 x1 x2 x3 : Option Value} : zk_R sc d 217 1100 [x0, x1, x2, x3] st M P = zk_R sc d 217 1101 [x0, x1, x2, x3] (.int 1 :: st) M P := zr_iconst um217 (rfl : zk_lk zm_217.2.2.2.2.2 1100 = some (.iconst 1)) (by decide)
set_option maxRecDepth 20000 in
theorem u217_1101 {x0 x1 x2 x3 : Option Value} {v w : Int32} : zk_R sc d 217 1101 [x0, x1, x2, x3] (.int w :: .int v :: st) M P = zk_R sc d 217 1102 [x0, x1, x2, x3] (.int (v + w) :: st) M P := zk_R_nx um217 (rfl : zk_lk zm_217.2.2.2.2.2 1101 = some (.iadd)) rfl
set_option maxRecDepth 20000 in
theorem u217_1103 {x1 x2 x3 : Option Value} {v : Nat} : zk_R sc d 217 1103 [some (.ref v), x1, x2, x3] st M P = zk_R sc d 217 1104 [some (.ref v), x1, x2, x3] (.ref v :: st) M P := zk_R_nx um217 (rfl : zk_lk zm_217.2.2.2.2.2 1103 = some (.aload_n 0)) rfl
set_option maxRecDepth 20000 in
theorem u217_1104 {x0 x1 x2 : Option Value} {v : Int32} : zk_R sc d 217 1104 [x0, x1, x2, some (.int v)] st M P = zk_R sc d 217 1105 [x0, x1, x2, some (.int v)] (.int v :: st) M P := zk_R_nx um217 (rfl : zk_lk zm_217.2.2.2.2.2 1104 = some (.iload_n 3)) rfl
set_option maxRecDepth 20000 in
theorem u217_1105 {x0 x1 x2 x3 : Option Value} : zk_R sc d 217 1105 [x0, x1, x2, x3] st M P = zk_R sc d 217 1106 [x0, x1, x2, x3] (.int 2 :: st) M P := zr_iconst um217 (rfl : zk_lk zm_217.2.2.2.2.2 1105 = some (.iconst 2)) (by decide)
set_option maxRecDepth 20000 in
theorem u217_1106 {x0 x1 x2 x3 : Option Value} {v w : Int32} : zk_R sc d 217 1106 [x0, x1, x2, x3] (.int w :: .int v :: st) M P = zk_R sc d 217 1107 [x0, x1, x2, x3] (.int (v + w) :: st) M P := zk_R_nx um217 (rfl : zk_lk zm_217.2.2.2.2.2 1106 = some (.iadd)) rfl
set_option maxRecDepth 20000 in
theorem u217_1108 {x1 x2 x3 : Option Value} {v : Nat} : zk_R sc d 217 1108 [some (.ref v), x1, x2, x3] st M P = zk_R sc d 217 1109 [some (.ref v), x1, x2, x3] (.ref v :: st) M P := zk_R_nx um217 (rfl : zk_lk zm_217.2.2.2.2.2 1108 = some (.aload_n 0)) rfl
set_option maxRecDepth 20000 in
theorem u217_1109 {x0 x1 x2 : Option Value} {v : Int32} : zk_R sc d 217 1109 [x0, x1, x2, some (.int v)] st M P = zk_R sc d 217 1110 [x0, x1, x2, some (.int v)] (.int v :: st) M P := zk_R_nx um217 (rfl : zk_lk zm_217.2.2.2.2.2 1109 = some (.iload_n 3)) rfl
set_option maxRecDepth 20000 in
theorem u217_1110 {x0 x1 x2 x3 : Option Value} : zk_R sc d 217 1110 [x0, x1, x2, x3] st M P = zk_R sc d 217 1111 [x0, x1, x2, x3] (.int 3 :: st) M P := zr_iconst um217 (rfl : zk_lk zm_217.2.2.2.2.2 1110 = some (.iconst 3)) (by decide)
set_option maxRecDepth 20000 in
theorem u217_1111 {x0 x1 x2 x3 : Option Value} {v w : Int32} : zk_R sc d 217 1111 [x0, x1, x2, x3] (.int w :: .int v :: st) M P = zk_R sc d 217 1112 [x0, x1, x2, x3] (.int (v + w) :: st) M P := zk_R_nx um217 (rfl : zk_lk zm_217.2.2.2.2.2 1111 = some (.iadd)) rfl
set_option maxRecDepth 20000 in
theorem u217_1113 {x1 x2 x3 : Option Value} {v : Nat} : zk_R sc d 217 1113 [some (.ref v), x1, x2, x3] st M P = zk_R sc d 217 1114 [some (.ref v), x1, x2, x3] (.ref v :: st) M P := zk_R_nx um217 (rfl : zk_lk zm_217.2.2.2.2.2 1113 = some (.aload_n 0)) rfl
set_option maxRecDepth 20000 in
theorem u217_1114 {x0 x1 x2 : Option Value} {v : Int32} : zk_R sc d 217 1114 [x0, x1, x2, some (.int v)] st M P = zk_R sc d 217 1115 [x0, x1, x2, some (.int v)] (.int v :: st) M P := zk_R_nx um217 (rfl : zk_lk zm_217.2.2.2.2.2 1114 = some (.iload_n 3)) rfl
set_option maxRecDepth 20000 in
theorem u217_1115 {x0 x1 x2 x3 : Option Value} : zk_R sc d 217 1115 [x0, x1, x2, x3] st M P = zk_R sc d 217 1116 [x0, x1, x2, x3] (.int 4 :: st) M P := zr_iconst um217 (rfl : zk_lk zm_217.2.2.2.2.2 1115 = some (.iconst 4)) (by decide)
set_option maxRecDepth 20000 in
theorem u217_1116 {x0 x1 x2 x3 : Option Value} {v w : Int32} : zk_R sc d 217 1116 [x0, x1, x2, x3] (.int w :: .int v :: st) M P = zk_R sc d 217 1117 [x0, x1, x2, x3] (.int (v + w) :: st) M P := zk_R_nx um217 (rfl : zk_lk zm_217.2.2.2.2.2 1116 = some (.iadd)) rfl
set_option maxRecDepth 20000 in
theorem u217_1118 {x0 x1 x2 x3 : Option Value} {a0 : Nat} {a1 : Int32} {a2 : Int32} {a3 : Int32} {a4 : Int32} (h1 : a0 < M.1) (h2 : (zk_sh a0).1 = 0) (h3 : (zk_sh a0).2.1 = 0) : zk_R sc (d + 1) 217 1118 [x0, x1, x2, x3] [.int a4, .int a3, .int a2, .int a1, .ref a0] M P = zk_R sc d 50 0 [some (.ref a0), some (.int a1), some (.int a2), some (.int a3), some (.int a4), none, none, none] [] M (fun r M' => zk_R sc (d + 1) 217 1121 [x0, x1, x2, x3] (r.toList ++ []) M' P) := zr_iv (as := [.int a1, .int a2, .int a3, .int a4]) (rest := []) um217 (rfl : zk_lk zm_217.2.2.2.2.2 1118 = some (.invokevirtual 147)) rfl (rfl : zk_mt 50 = some zm_50) rfl rfl rfl rfl rfl h1 h2 h3
set_option maxRecDepth 20000 in
theorem u217_1121 {x0 x1 x3 : Option Value} {v : Nat} : zk_R sc d 217 1121 [x0, x1, some (.ref v), x3] st M P = zk_R sc d 217 1122 [x0, x1, some (.ref v), x3] (.ref v :: st) M P := zk_R_nx um217 (rfl : zk_lk zm_217.2.2.2.2.2 1121 = some (.aload_n 2)) rfl
set_option maxRecDepth 20000 in
theorem u217_1122 {x1 x2 x3 : Option Value} {v : Nat} : zk_R sc d 217 1122 [some (.ref v), x1, x2, x3] st M P = zk_R sc d 217 1123 [some (.ref v), x1, x2, x3] (.ref v :: st) M P := zk_R_nx um217 (rfl : zk_lk zm_217.2.2.2.2.2 1122 = some (.aload_n 0)) rfl
set_option maxRecDepth 20000 in
theorem u217_1123 {x0 x1 x2 : Option Value} {v : Int32} : zk_R sc d 217 1123 [x0, x1, x2, some (.int v)] st M P = zk_R sc d 217 1124 [x0, x1, x2, some (.int v)] (.int v :: st) M P := zk_R_nx um217 (rfl : zk_lk zm_217.2.2.2.2.2 1123 = some (.iload_n 3)) rfl
set_option maxRecDepth 20000 in
theorem u217_1124 {x0 x1 x2 x3 : Option Value} : zk_R sc d 217 1124 [x0, x1, x2, x3] st M P = zk_R sc d 217 1125 [x0, x1, x2, x3] (.int 1 :: st) M P := zr_iconst um217 (rfl : zk_lk zm_217.2.2.2.2.2 1124 = some (.iconst 1)) (by decide)
set_option maxRecDepth 20000 in
theorem u217_1125 {x0 x1 x2 x3 : Option Value} {v w : Int32} : zk_R sc d 217 1125 [x0, x1, x2, x3] (.int w :: .int v :: st) M P = zk_R sc d 217 1126 [x0, x1, x2, x3] (.int (v + w) :: st) M P := zk_R_nx um217 (rfl : zk_lk zm_217.2.2.2.2.2 1125 = some (.iadd)) rfl
set_option maxRecDepth 20000 in
theorem u217_1127 {x1 x2 x3 : Option Value} {v : Nat} : zk_R sc d 217 1127 [some (.ref v), x1, x2, x3] st M P = zk_R sc d 217 1128 [some (.ref v), x1, x2, x3] (.ref v :: st) M P := zk_R_nx um217 (rfl : zk_lk zm_217.2.2.2.2.2 1127 = some (.aload_n 0)) rfl
set_option maxRecDepth 20000 in
theorem u217_1128 {x0 x1 x2 : Option Value} {v : Int32} : zk_R sc d 217 1128 [x0, x1, x2, some (.int v)] st M P = zk_R sc d 217 1129 [x0, x1, x2, some (.int v)] (.int v :: st) M P := zk_R_nx um217 (rfl : zk_lk zm_217.2.2.2.2.2 1128 = some (.iload_n 3)) rfl
set_option maxRecDepth 20000 in
theorem u217_1129 {x0 x1 x2 x3 : Option Value} : zk_R sc d 217 1129 [x0, x1, x2, x3] st M P = zk_R sc d 217 1130 [x0, x1, x2, x3] (.int 2 :: st) M P := zr_iconst um217 (rfl : zk_lk zm_217.2.2.2.2.2 1129 = some (.iconst 2)) (by decide)
set_option maxRecDepth 20000 in
theorem u217_1130 {x0 x1 x2 x3 : Option Value} {v w : Int32} : zk_R sc d 217 1130 [x0, x1, x2, x3] (.int w :: .int v :: st) M P = zk_R sc d 217 1131 [x0, x1, x2, x3] (.int (v + w) :: st) M P := zk_R_nx um217 (rfl : zk_lk zm_217.2.2.2.2.2 1130 = some (.iadd)) rfl
set_option maxRecDepth 20000 in
theorem u217_1132 {x1 x2 x3 : Option Value} {v : Nat} : zk_R sc d 217 1132 [some (.ref v), x1, x2, x3] st M P = zk_R sc d 217 1133 [some (.ref v), x1, x2, x3] (.ref v :: st) M P := zk_R_nx um217 (rfl : zk_lk zm_217.2.2.2.2.2 1132 = some (.aload_n 0)) rfl
set_option maxRecDepth 20000 in
theorem u217_1133 {x0 x1 x2 : Option Value} {v : Int32} : zk_R sc d 217 1133 [x0, x1, x2, some (.int v)] st M P = zk_R sc d 217 1134 [x0, x1, x2, some (.int v)] (.int v :: st) M P := zk_R_nx um217 (rfl : zk_lk zm_217.2.2.2.2.2 1133 = some (.iload_n 3)) rfl
set_option maxRecDepth 20000 in
theorem u217_1134 {x0 x1 x2 x3 : Option Value} : zk_R sc d 217 1134 [x0, x1, x2, x3] st M P = zk_R sc d 217 1135 [x0, x1, x2, x3] (.int 3 :: st) M P := zr_iconst um217 (rfl : zk_lk zm_217.2.2.2.2.2 1134 = some (.iconst 3)) (by decide)
set_option maxRecDepth 20000 in
theorem u217_1135 {x0 x1 x2 x3 : Option Value} {v w : Int32} : zk_R sc d 217 1135 [x0, x1, x2, x3] (.int w :: .int v :: st) M P = zk_R sc d 217 1136 [x0, x1, x2, x3] (.int (v + w) :: st) M P := zk_R_nx um217 (rfl : zk_lk zm_217.2.2.2.2.2 1135 = some (.iadd)) rfl
set_option maxRecDepth 20000 in
theorem u217_1137 {x1 x2 x3 : Option Value} {v : Nat} : zk_R sc d 217 1137 [some (.ref v), x1, x2, x3] st M P = zk_R sc d 217 1138 [some (.ref v), x1, x2, x3] (.ref v :: st) M P := zk_R_nx um217 (rfl : zk_lk zm_217.2.2.2.2.2 1137 = some (.aload_n 0)) rfl
set_option maxRecDepth 20000 in
theorem u217_1138 {x0 x1 x2 : Option Value} {v : Int32} : zk_R sc d 217 1138 [x0, x1, x2, some (.int v)] st M P = zk_R sc d 217 1139 [x0, x1, x2, some (.int v)] (.int v :: st) M P := zk_R_nx um217 (rfl : zk_lk zm_217.2.2.2.2.2 1138 = some (.iload_n 3)) rfl
set_option maxRecDepth 20000 in
theorem u217_1139 {x0 x1 x2 x3 : Option Value} : zk_R sc d 217 1139 [x0, x1, x2, x3] st M P = zk_R sc d 217 1140 [x0, x1, x2, x3] (.int 4 :: st) M P := zr_iconst um217 (rfl : zk_lk zm_217.2.2.2.2.2 1139 = some (.iconst 4)) (by decide)
set_option maxRecDepth 20000 in
theorem u217_1140 {x0 x1 x2 x3 : Option Value} {v w : Int32} : zk_R sc d 217 1140 [x0, x1, x2, x3] (.int w :: .int v :: st) M P = zk_R sc d 217 1141 [x0, x1, x2, x3] (.int (v + w) :: st) M P := zk_R_nx um217 (rfl : zk_lk zm_217.2.2.2.2.2 1140 = some (.iadd)) rfl
set_option maxRecDepth 20000 in
theorem u217_1142 {x0 x1 x2 x3 : Option Value} {a0 : Nat} {a1 : Int32} {a2 : Int32} {a3 : Int32} {a4 : Int32} {r0 : Int64} (h1 : a0 < M.1) (h2 : (zk_sh a0).1 = 0) (h3 : (zk_sh a0).2.1 = 6) : zk_R sc (d + 1) 217 1142 [x0, x1, x2, x3] [.int a4, .int a3, .int a2, .int a1, .ref a0, .long r0] M P = zk_R sc d 206 0 [some (.ref a0), some (.int a1), some (.int a2), some (.int a3), some (.int a4), none, none, none] [] M (fun r M' => zk_R sc (d + 1) 217 1145 [x0, x1, x2, x3] (r.toList ++ [.long r0]) M' P) := zr_iv (as := [.int a1, .int a2, .int a3, .int a4]) (rest := [.long r0]) um217 (rfl : zk_lk zm_217.2.2.2.2.2 1142 = some (.invokevirtual 151)) rfl (rfl : zk_mt 206 = some zm_206) rfl rfl rfl rfl rfl h1 h2 h3
set_option maxRecDepth 20000 in
theorem u217_1145 {x0 x1 x2 x3 : Option Value} {v w : Int64} : zk_R sc d 217 1145 [x0, x1, x2, x3] (.long w :: .long v :: st) M P = zk_R sc d 217 1146 [x0, x1, x2, x3] (.int (lg_cmp v w) :: st) M P := zk_R_nx um217 (rfl : zk_lk zm_217.2.2.2.2.2 1145 = some (.lcmp)) rfl
set_option maxRecDepth 20000 in
theorem u217_1146 {x0 x1 x2 x3 : Option Value} {x : Int32} : zk_R sc d 217 1146 [x0, x1, x2, x3] (.int x :: st) M P = if x = 0 then zk_R sc d 217 1412 [x0, x1, x2, x3] st M P else zk_R sc d 217 1149 [x0, x1, x2, x3] st M P := zr_if_eq um217 (rfl : zk_lk zm_217.2.2.2.2.2 1146 = some (.ifCond .eq (266))) (by decide)
set_option maxRecDepth 20000 in
theorem u217_1149 {x0 x1 x2 x3 : Option Value} : zk_R sc d 217 1149 [x0, x1, x2, x3] st M P = zk_R sc d 217 1150 [x0, x1, x2, x3] (.int 0 :: st) M P := zr_iconst um217 (rfl : zk_lk zm_217.2.2.2.2.2 1149 = some (.iconst 0)) (by decide)
set_option maxRecDepth 20000 in
theorem u217_1150 {x0 x1 x2 x3 : Option Value} {v : Int32} : zk_R sc d 217 1150 [x0, x1, x2, x3] [.int v] M P = ((v = 0 ∨ v = 1) ∧ P (some (.int v)) M) := zr_retb um217 (rfl : zk_lk zm_217.2.2.2.2.2 1150 = some (.ireturn)) rfl
set_option maxRecDepth 20000 in
theorem u217_1151 {x0 x2 x3 : Option Value} {v : Nat} : zk_R sc d 217 1151 [x0, some (.ref v), x2, x3] st M P = zk_R sc d 217 1152 [x0, some (.ref v), x2, x3] (.ref v :: st) M P := zk_R_nx um217 (rfl : zk_lk zm_217.2.2.2.2.2 1151 = some (.aload_n 1)) rfl
set_option maxRecDepth 20000 in
theorem u217_1152 {x0 x1 x2 x3 : Option Value} {a0 : Nat} (h1 : a0 < M.1) (h2 : (zk_sh a0).1 = 0) (h3 : (zk_sh a0).2.1 = 0) : zk_R sc (d + 1) 217 1152 [x0, x1, x2, x3] [.ref a0] M P = zk_R sc d 52 0 [some (.ref a0)] [] M (fun r M' => zk_R sc (d + 1) 217 1155 [x0, x1, x2, x3] (r.toList ++ []) M' P) := zr_iv (as := []) (rest := []) um217 (rfl : zk_lk zm_217.2.2.2.2.2 1152 = some (.invokevirtual 152)) rfl (rfl : zk_mt 52 = some zm_52) rfl rfl rfl rfl rfl h1 h2 h3
set_option maxRecDepth 20000 in
theorem u217_1155 {x0 x1 x3 : Option Value} {v : Nat} : zk_R sc d 217 1155 [x0, x1, some (.ref v), x3] st M P = zk_R sc d 217 1156 [x0, x1, some (.ref v), x3] (.ref v :: st) M P := zk_R_nx um217 (rfl : zk_lk zm_217.2.2.2.2.2 1155 = some (.aload_n 2)) rfl
set_option maxRecDepth 20000 in
theorem u217_1156 {x0 x1 x2 x3 : Option Value} {a0 : Nat} {r0 : Int32} (h1 : a0 < M.1) (h2 : (zk_sh a0).1 = 0) (h3 : (zk_sh a0).2.1 = 6) : zk_R sc (d + 1) 217 1156 [x0, x1, x2, x3] [.ref a0, .int r0] M P = zk_R sc d 208 0 [some (.ref a0), none] [] M (fun r M' => zk_R sc (d + 1) 217 1159 [x0, x1, x2, x3] (r.toList ++ [.int r0]) M' P) := zr_iv (as := []) (rest := [.int r0]) um217 (rfl : zk_lk zm_217.2.2.2.2.2 1156 = some (.invokevirtual 155)) rfl (rfl : zk_mt 208 = some zm_208) rfl rfl rfl rfl rfl h1 h2 h3
set_option maxRecDepth 20000 in
theorem u217_1159 {x0 x1 x2 x3 : Option Value} {x y : Int32} : zk_R sc d 217 1159 [x0, x1, x2, x3] (.int y :: .int x :: st) M P = if x = y then zk_R sc d 217 1412 [x0, x1, x2, x3] st M P else zk_R sc d 217 1162 [x0, x1, x2, x3] st M P := zr_ic_eq um217 (rfl : zk_lk zm_217.2.2.2.2.2 1159 = some (.if_icmp .eq (253))) (by decide)
set_option maxRecDepth 20000 in
theorem u217_1162 {x0 x1 x2 x3 : Option Value} : zk_R sc d 217 1162 [x0, x1, x2, x3] st M P = zk_R sc d 217 1163 [x0, x1, x2, x3] (.int 0 :: st) M P := zr_iconst um217 (rfl : zk_lk zm_217.2.2.2.2.2 1162 = some (.iconst 0)) (by decide)
set_option maxRecDepth 20000 in
theorem u217_1163 {x0 x1 x2 x3 : Option Value} {v : Int32} : zk_R sc d 217 1163 [x0, x1, x2, x3] [.int v] M P = ((v = 0 ∨ v = 1) ∧ P (some (.int v)) M) := zr_retb um217 (rfl : zk_lk zm_217.2.2.2.2.2 1163 = some (.ireturn)) rfl
set_option maxRecDepth 20000 in
theorem u217_1164 {x0 x2 x3 : Option Value} {v : Nat} : zk_R sc d 217 1164 [x0, some (.ref v), x2, x3] st M P = zk_R sc d 217 1165 [x0, some (.ref v), x2, x3] (.ref v :: st) M P := zk_R_nx um217 (rfl : zk_lk zm_217.2.2.2.2.2 1164 = some (.aload_n 1)) rfl
set_option maxRecDepth 20000 in
theorem u217_1165 {x0 x1 x2 x3 : Option Value} {a0 : Nat} (h1 : a0 < M.1) (h2 : (zk_sh a0).1 = 0) (h3 : (zk_sh a0).2.1 = 0) : zk_R sc (d + 1) 217 1165 [x0, x1, x2, x3] [.ref a0] M P = zk_R sc d 53 0 [some (.ref a0)] [] M (fun r M' => zk_R sc (d + 1) 217 1168 [x0, x1, x2, x3] (r.toList ++ []) M' P) := zr_iv (as := []) (rest := []) um217 (rfl : zk_lk zm_217.2.2.2.2.2 1165 = some (.invokevirtual 156)) rfl (rfl : zk_mt 53 = some zm_53) rfl rfl rfl rfl rfl h1 h2 h3
set_option maxRecDepth 20000 in
theorem u217_1168 {x0 x1 x3 : Option Value} {v : Nat} : zk_R sc d 217 1168 [x0, x1, some (.ref v), x3] st M P = zk_R sc d 217 1169 [x0, x1, some (.ref v), x3] (.ref v :: st) M P := zk_R_nx um217 (rfl : zk_lk zm_217.2.2.2.2.2 1168 = some (.aload_n 2)) rfl
set_option maxRecDepth 20000 in
theorem u217_1169 {x0 x1 x2 x3 : Option Value} {a0 : Nat} {r0 : Int32} (h1 : a0 < M.1) (h2 : (zk_sh a0).1 = 0) (h3 : (zk_sh a0).2.1 = 6) : zk_R sc (d + 1) 217 1169 [x0, x1, x2, x3] [.ref a0, .int r0] M P = zk_R sc d 209 0 [some (.ref a0), none] [] M (fun r M' => zk_R sc (d + 1) 217 1172 [x0, x1, x2, x3] (r.toList ++ [.int r0]) M' P) := zr_iv (as := []) (rest := [.int r0]) um217 (rfl : zk_lk zm_217.2.2.2.2.2 1169 = some (.invokevirtual 159)) rfl (rfl : zk_mt 209 = some zm_209) rfl rfl rfl rfl rfl h1 h2 h3
set_option maxRecDepth 20000 in
theorem u217_1172 {x0 x1 x2 x3 : Option Value} {x y : Int32} : zk_R sc d 217 1172 [x0, x1, x2, x3] (.int y :: .int x :: st) M P = if x = y then zk_R sc d 217 1412 [x0, x1, x2, x3] st M P else zk_R sc d 217 1175 [x0, x1, x2, x3] st M P := zr_ic_eq um217 (rfl : zk_lk zm_217.2.2.2.2.2 1172 = some (.if_icmp .eq (240))) (by decide)
set_option maxRecDepth 20000 in
theorem u217_1175 {x0 x1 x2 x3 : Option Value} : zk_R sc d 217 1175 [x0, x1, x2, x3] st M P = zk_R sc d 217 1176 [x0, x1, x2, x3] (.int 0 :: st) M P := zr_iconst um217 (rfl : zk_lk zm_217.2.2.2.2.2 1175 = some (.iconst 0)) (by decide)
set_option maxRecDepth 20000 in
theorem u217_1176 {x0 x1 x2 x3 : Option Value} {v : Int32} : zk_R sc d 217 1176 [x0, x1, x2, x3] [.int v] M P = ((v = 0 ∨ v = 1) ∧ P (some (.int v)) M) := zr_retb um217 (rfl : zk_lk zm_217.2.2.2.2.2 1176 = some (.ireturn)) rfl
set_option maxRecDepth 20000 in
theorem u217_1177 {x0 x2 x3 : Option Value} {v : Nat} : zk_R sc d 217 1177 [x0, some (.ref v), x2, x3] st M P = zk_R sc d 217 1178 [x0, some (.ref v), x2, x3] (.ref v :: st) M P := zk_R_nx um217 (rfl : zk_lk zm_217.2.2.2.2.2 1177 = some (.aload_n 1)) rfl
set_option maxRecDepth 20000 in
theorem u217_1178 {x1 x2 x3 : Option Value} {v : Nat} : zk_R sc d 217 1178 [some (.ref v), x1, x2, x3] st M P = zk_R sc d 217 1179 [some (.ref v), x1, x2, x3] (.ref v :: st) M P := zk_R_nx um217 (rfl : zk_lk zm_217.2.2.2.2.2 1178 = some (.aload_n 0)) rfl
set_option maxRecDepth 20000 in
theorem u217_1179 {x0 x1 x2 : Option Value} {v : Int32} : zk_R sc d 217 1179 [x0, x1, x2, some (.int v)] st M P = zk_R sc d 217 1180 [x0, x1, x2, some (.int v)] (.int v :: st) M P := zk_R_nx um217 (rfl : zk_lk zm_217.2.2.2.2.2 1179 = some (.iload_n 3)) rfl
set_option maxRecDepth 20000 in
theorem u217_1180 {x0 x1 x2 x3 : Option Value} : zk_R sc d 217 1180 [x0, x1, x2, x3] st M P = zk_R sc d 217 1181 [x0, x1, x2, x3] (.int 1 :: st) M P := zr_iconst um217 (rfl : zk_lk zm_217.2.2.2.2.2 1180 = some (.iconst 1)) (by decide)
set_option maxRecDepth 20000 in
theorem u217_1181 {x0 x1 x2 x3 : Option Value} {v w : Int32} : zk_R sc d 217 1181 [x0, x1, x2, x3] (.int w :: .int v :: st) M P = zk_R sc d 217 1182 [x0, x1, x2, x3] (.int (v + w) :: st) M P := zk_R_nx um217 (rfl : zk_lk zm_217.2.2.2.2.2 1181 = some (.iadd)) rfl
set_option maxRecDepth 20000 in
theorem u217_1183 {x1 x2 x3 : Option Value} {v : Nat} : zk_R sc d 217 1183 [some (.ref v), x1, x2, x3] st M P = zk_R sc d 217 1184 [some (.ref v), x1, x2, x3] (.ref v :: st) M P := zk_R_nx um217 (rfl : zk_lk zm_217.2.2.2.2.2 1183 = some (.aload_n 0)) rfl
set_option maxRecDepth 20000 in
theorem u217_1184 {x0 x1 x2 : Option Value} {v : Int32} : zk_R sc d 217 1184 [x0, x1, x2, some (.int v)] st M P = zk_R sc d 217 1185 [x0, x1, x2, some (.int v)] (.int v :: st) M P := zk_R_nx um217 (rfl : zk_lk zm_217.2.2.2.2.2 1184 = some (.iload_n 3)) rfl
set_option maxRecDepth 20000 in
theorem u217_1185 {x0 x1 x2 x3 : Option Value} : zk_R sc d 217 1185 [x0, x1, x2, x3] st M P = zk_R sc d 217 1186 [x0, x1, x2, x3] (.int 2 :: st) M P := zr_iconst um217 (rfl : zk_lk zm_217.2.2.2.2.2 1185 = some (.iconst 2)) (by decide)
set_option maxRecDepth 20000 in
theorem u217_1186 {x0 x1 x2 x3 : Option Value} {v w : Int32} : zk_R sc d 217 1186 [x0, x1, x2, x3] (.int w :: .int v :: st) M P = zk_R sc d 217 1187 [x0, x1, x2, x3] (.int (v + w) :: st) M P := zk_R_nx um217 (rfl : zk_lk zm_217.2.2.2.2.2 1186 = some (.iadd)) rfl
set_option maxRecDepth 20000 in
theorem u217_1188 {x1 x2 x3 : Option Value} {v : Nat} : zk_R sc d 217 1188 [some (.ref v), x1, x2, x3] st M P = zk_R sc d 217 1189 [some (.ref v), x1, x2, x3] (.ref v :: st) M P := zk_R_nx um217 (rfl : zk_lk zm_217.2.2.2.2.2 1188 = some (.aload_n 0)) rfl
set_option maxRecDepth 20000 in
theorem u217_1189 {x0 x1 x2 : Option Value} {v : Int32} : zk_R sc d 217 1189 [x0, x1, x2, some (.int v)] st M P = zk_R sc d 217 1190 [x0, x1, x2, some (.int v)] (.int v :: st) M P := zk_R_nx um217 (rfl : zk_lk zm_217.2.2.2.2.2 1189 = some (.iload_n 3)) rfl
set_option maxRecDepth 20000 in
theorem u217_1190 {x0 x1 x2 x3 : Option Value} : zk_R sc d 217 1190 [x0, x1, x2, x3] st M P = zk_R sc d 217 1191 [x0, x1, x2, x3] (.int 3 :: st) M P := zr_iconst um217 (rfl : zk_lk zm_217.2.2.2.2.2 1190 = some (.iconst 3)) (by decide)
set_option maxRecDepth 20000 in
theorem u217_1191 {x0 x1 x2 x3 : Option Value} {v w : Int32} : zk_R sc d 217 1191 [x0, x1, x2, x3] (.int w :: .int v :: st) M P = zk_R sc d 217 1192 [x0, x1, x2, x3] (.int (v + w) :: st) M P := zk_R_nx um217 (rfl : zk_lk zm_217.2.2.2.2.2 1191 = some (.iadd)) rfl
set_option maxRecDepth 20000 in
theorem u217_1193 {x0 x1 x2 x3 : Option Value} {a0 : Nat} {a1 : Int32} {a2 : Int32} {a3 : Int32} (h1 : a0 < M.1) (h2 : (zk_sh a0).1 = 0) (h3 : (zk_sh a0).2.1 = 0) : zk_R sc (d + 1) 217 1193 [x0, x1, x2, x3] [.int a3, .int a2, .int a1, .ref a0] M P = zk_R sc d 54 0 [some (.ref a0), some (.int a1), some (.int a2), some (.int a3)] [] M (fun r M' => zk_R sc (d + 1) 217 1196 [x0, x1, x2, x3] (r.toList ++ []) M' P) := zr_iv (as := [.int a1, .int a2, .int a3]) (rest := []) um217 (rfl : zk_lk zm_217.2.2.2.2.2 1193 = some (.invokevirtual 160)) rfl (rfl : zk_mt 54 = some zm_54) rfl rfl rfl rfl rfl h1 h2 h3
set_option maxRecDepth 20000 in
theorem u217_1196 {x0 x1 x3 : Option Value} {v : Nat} : zk_R sc d 217 1196 [x0, x1, some (.ref v), x3] st M P = zk_R sc d 217 1197 [x0, x1, some (.ref v), x3] (.ref v :: st) M P := zk_R_nx um217 (rfl : zk_lk zm_217.2.2.2.2.2 1196 = some (.aload_n 2)) rfl
set_option maxRecDepth 20000 in
theorem u217_1197 {x1 x2 x3 : Option Value} {v : Nat} : zk_R sc d 217 1197 [some (.ref v), x1, x2, x3] st M P = zk_R sc d 217 1198 [some (.ref v), x1, x2, x3] (.ref v :: st) M P := zk_R_nx um217 (rfl : zk_lk zm_217.2.2.2.2.2 1197 = some (.aload_n 0)) rfl
set_option maxRecDepth 20000 in
theorem u217_1198 {x0 x1 x2 : Option Value} {v : Int32} : zk_R sc d 217 1198 [x0, x1, x2, some (.int v)] st M P = zk_R sc d 217 1199 [x0, x1, x2, some (.int v)] (.int v :: st) M P := zk_R_nx um217 (rfl : zk_lk zm_217.2.2.2.2.2 1198 = some (.iload_n 3)) rfl
set_option maxRecDepth 20000 in
theorem u217_1199 {x0 x1 x2 x3 : Option Value} : zk_R sc d 217 1199 [x0, x1, x2, x3] st M P = zk_R sc d 217 1200 [x0, x1, x2, x3] (.int 1 :: st) M P := zr_iconst um217 (rfl : zk_lk zm_217.2.2.2.2.2 1199 = some (.iconst 1)) (by decide)
set_option maxRecDepth 20000 in
theorem u217_1200 {x0 x1 x2 x3 : Option Value} {v w : Int32} : zk_R sc d 217 1200 [x0, x1, x2, x3] (.int w :: .int v :: st) M P = zk_R sc d 217 1201 [x0, x1, x2, x3] (.int (v + w) :: st) M P := zk_R_nx um217 (rfl : zk_lk zm_217.2.2.2.2.2 1200 = some (.iadd)) rfl
set_option maxRecDepth 20000 in
theorem u217_1202 {x1 x2 x3 : Option Value} {v : Nat} : zk_R sc d 217 1202 [some (.ref v), x1, x2, x3] st M P = zk_R sc d 217 1203 [some (.ref v), x1, x2, x3] (.ref v :: st) M P := zk_R_nx um217 (rfl : zk_lk zm_217.2.2.2.2.2 1202 = some (.aload_n 0)) rfl
set_option maxRecDepth 20000 in
theorem u217_1203 {x0 x1 x2 : Option Value} {v : Int32} : zk_R sc d 217 1203 [x0, x1, x2, some (.int v)] st M P = zk_R sc d 217 1204 [x0, x1, x2, some (.int v)] (.int v :: st) M P := zk_R_nx um217 (rfl : zk_lk zm_217.2.2.2.2.2 1203 = some (.iload_n 3)) rfl
set_option maxRecDepth 20000 in
theorem u217_1204 {x0 x1 x2 x3 : Option Value} : zk_R sc d 217 1204 [x0, x1, x2, x3] st M P = zk_R sc d 217 1205 [x0, x1, x2, x3] (.int 2 :: st) M P := zr_iconst um217 (rfl : zk_lk zm_217.2.2.2.2.2 1204 = some (.iconst 2)) (by decide)
set_option maxRecDepth 20000 in
theorem u217_1205 {x0 x1 x2 x3 : Option Value} {v w : Int32} : zk_R sc d 217 1205 [x0, x1, x2, x3] (.int w :: .int v :: st) M P = zk_R sc d 217 1206 [x0, x1, x2, x3] (.int (v + w) :: st) M P := zk_R_nx um217 (rfl : zk_lk zm_217.2.2.2.2.2 1205 = some (.iadd)) rfl
set_option maxRecDepth 20000 in
theorem u217_1207 {x1 x2 x3 : Option Value} {v : Nat} : zk_R sc d 217 1207 [some (.ref v), x1, x2, x3] st M P = zk_R sc d 217 1208 [some (.ref v), x1, x2, x3] (.ref v :: st) M P := zk_R_nx um217 (rfl : zk_lk zm_217.2.2.2.2.2 1207 = some (.aload_n 0)) rfl
set_option maxRecDepth 20000 in
theorem u217_1208 {x0 x1 x2 : Option Value} {v : Int32} : zk_R sc d 217 1208 [x0, x1, x2, some (.int v)] st M P = zk_R sc d 217 1209 [x0, x1, x2, some (.int v)] (.int v :: st) M P := zk_R_nx um217 (rfl : zk_lk zm_217.2.2.2.2.2 1208 = some (.iload_n 3)) rfl
set_option maxRecDepth 20000 in
theorem u217_1209 {x0 x1 x2 x3 : Option Value} : zk_R sc d 217 1209 [x0, x1, x2, x3] st M P = zk_R sc d 217 1210 [x0, x1, x2, x3] (.int 3 :: st) M P := zr_iconst um217 (rfl : zk_lk zm_217.2.2.2.2.2 1209 = some (.iconst 3)) (by decide)
set_option maxRecDepth 20000 in
theorem u217_1210 {x0 x1 x2 x3 : Option Value} {v w : Int32} : zk_R sc d 217 1210 [x0, x1, x2, x3] (.int w :: .int v :: st) M P = zk_R sc d 217 1211 [x0, x1, x2, x3] (.int (v + w) :: st) M P := zk_R_nx um217 (rfl : zk_lk zm_217.2.2.2.2.2 1210 = some (.iadd)) rfl
set_option maxRecDepth 20000 in
theorem u217_1212 {x0 x1 x2 x3 : Option Value} {a0 : Nat} {a1 : Int32} {a2 : Int32} {a3 : Int32} {r0 : Int32} (h1 : a0 < M.1) (h2 : (zk_sh a0).1 = 0) (h3 : (zk_sh a0).2.1 = 6) : zk_R sc (d + 1) 217 1212 [x0, x1, x2, x3] [.int a3, .int a2, .int a1, .ref a0, .int r0] M P = zk_R sc d 210 0 [some (.ref a0), some (.int a1), some (.int a2), some (.int a3), none] [] M (fun r M' => zk_R sc (d + 1) 217 1215 [x0, x1, x2, x3] (r.toList ++ [.int r0]) M' P) := zr_iv (as := [.int a1, .int a2, .int a3]) (rest := [.int r0]) um217 (rfl : zk_lk zm_217.2.2.2.2.2 1212 = some (.invokevirtual 163)) rfl (rfl : zk_mt 210 = some zm_210) rfl rfl rfl rfl rfl h1 h2 h3
set_option maxRecDepth 20000 in
theorem u217_1215 {x0 x1 x2 x3 : Option Value} {x y : Int32} : zk_R sc d 217 1215 [x0, x1, x2, x3] (.int y :: .int x :: st) M P = if x = y then zk_R sc d 217 1412 [x0, x1, x2, x3] st M P else zk_R sc d 217 1218 [x0, x1, x2, x3] st M P := zr_ic_eq um217 (rfl : zk_lk zm_217.2.2.2.2.2 1215 = some (.if_icmp .eq (197))) (by decide)
set_option maxRecDepth 20000 in
theorem u217_1218 {x0 x1 x2 x3 : Option Value} : zk_R sc d 217 1218 [x0, x1, x2, x3] st M P = zk_R sc d 217 1219 [x0, x1, x2, x3] (.int 0 :: st) M P := zr_iconst um217 (rfl : zk_lk zm_217.2.2.2.2.2 1218 = some (.iconst 0)) (by decide)
set_option maxRecDepth 20000 in
theorem u217_1219 {x0 x1 x2 x3 : Option Value} {v : Int32} : zk_R sc d 217 1219 [x0, x1, x2, x3] [.int v] M P = ((v = 0 ∨ v = 1) ∧ P (some (.int v)) M) := zr_retb um217 (rfl : zk_lk zm_217.2.2.2.2.2 1219 = some (.ireturn)) rfl
set_option maxRecDepth 20000 in
theorem u217_1220 {x0 x2 x3 : Option Value} {v : Nat} : zk_R sc d 217 1220 [x0, some (.ref v), x2, x3] st M P = zk_R sc d 217 1221 [x0, some (.ref v), x2, x3] (.ref v :: st) M P := zk_R_nx um217 (rfl : zk_lk zm_217.2.2.2.2.2 1220 = some (.aload_n 1)) rfl
set_option maxRecDepth 20000 in
theorem u217_1221 {x1 x2 x3 : Option Value} {v : Nat} : zk_R sc d 217 1221 [some (.ref v), x1, x2, x3] st M P = zk_R sc d 217 1222 [some (.ref v), x1, x2, x3] (.ref v :: st) M P := zk_R_nx um217 (rfl : zk_lk zm_217.2.2.2.2.2 1221 = some (.aload_n 0)) rfl
set_option maxRecDepth 20000 in
theorem u217_1222 {x0 x1 x2 : Option Value} {v : Int32} : zk_R sc d 217 1222 [x0, x1, x2, some (.int v)] st M P = zk_R sc d 217 1223 [x0, x1, x2, some (.int v)] (.int v :: st) M P := zk_R_nx um217 (rfl : zk_lk zm_217.2.2.2.2.2 1222 = some (.iload_n 3)) rfl
set_option maxRecDepth 20000 in
theorem u217_1223 {x0 x1 x2 x3 : Option Value} : zk_R sc d 217 1223 [x0, x1, x2, x3] st M P = zk_R sc d 217 1224 [x0, x1, x2, x3] (.int 1 :: st) M P := zr_iconst um217 (rfl : zk_lk zm_217.2.2.2.2.2 1223 = some (.iconst 1)) (by decide)
set_option maxRecDepth 20000 in
theorem u217_1224 {x0 x1 x2 x3 : Option Value} {v w : Int32} : zk_R sc d 217 1224 [x0, x1, x2, x3] (.int w :: .int v :: st) M P = zk_R sc d 217 1225 [x0, x1, x2, x3] (.int (v + w) :: st) M P := zk_R_nx um217 (rfl : zk_lk zm_217.2.2.2.2.2 1224 = some (.iadd)) rfl
set_option maxRecDepth 20000 in
theorem u217_1226 {x1 x2 x3 : Option Value} {v : Nat} : zk_R sc d 217 1226 [some (.ref v), x1, x2, x3] st M P = zk_R sc d 217 1227 [some (.ref v), x1, x2, x3] (.ref v :: st) M P := zk_R_nx um217 (rfl : zk_lk zm_217.2.2.2.2.2 1226 = some (.aload_n 0)) rfl
set_option maxRecDepth 20000 in
theorem u217_1227 {x0 x1 x2 : Option Value} {v : Int32} : zk_R sc d 217 1227 [x0, x1, x2, some (.int v)] st M P = zk_R sc d 217 1228 [x0, x1, x2, some (.int v)] (.int v :: st) M P := zk_R_nx um217 (rfl : zk_lk zm_217.2.2.2.2.2 1227 = some (.iload_n 3)) rfl
set_option maxRecDepth 20000 in
theorem u217_1228 {x0 x1 x2 x3 : Option Value} : zk_R sc d 217 1228 [x0, x1, x2, x3] st M P = zk_R sc d 217 1229 [x0, x1, x2, x3] (.int 2 :: st) M P := zr_iconst um217 (rfl : zk_lk zm_217.2.2.2.2.2 1228 = some (.iconst 2)) (by decide)
set_option maxRecDepth 20000 in
theorem u217_1229 {x0 x1 x2 x3 : Option Value} {v w : Int32} : zk_R sc d 217 1229 [x0, x1, x2, x3] (.int w :: .int v :: st) M P = zk_R sc d 217 1230 [x0, x1, x2, x3] (.int (v + w) :: st) M P := zk_R_nx um217 (rfl : zk_lk zm_217.2.2.2.2.2 1229 = some (.iadd)) rfl
set_option maxRecDepth 20000 in
theorem u217_1231 {x1 x2 x3 : Option Value} {v : Nat} : zk_R sc d 217 1231 [some (.ref v), x1, x2, x3] st M P = zk_R sc d 217 1232 [some (.ref v), x1, x2, x3] (.ref v :: st) M P := zk_R_nx um217 (rfl : zk_lk zm_217.2.2.2.2.2 1231 = some (.aload_n 0)) rfl
set_option maxRecDepth 20000 in
theorem u217_1232 {x0 x1 x2 : Option Value} {v : Int32} : zk_R sc d 217 1232 [x0, x1, x2, some (.int v)] st M P = zk_R sc d 217 1233 [x0, x1, x2, some (.int v)] (.int v :: st) M P := zk_R_nx um217 (rfl : zk_lk zm_217.2.2.2.2.2 1232 = some (.iload_n 3)) rfl
set_option maxRecDepth 20000 in
theorem u217_1233 {x0 x1 x2 x3 : Option Value} : zk_R sc d 217 1233 [x0, x1, x2, x3] st M P = zk_R sc d 217 1234 [x0, x1, x2, x3] (.int 3 :: st) M P := zr_iconst um217 (rfl : zk_lk zm_217.2.2.2.2.2 1233 = some (.iconst 3)) (by decide)
set_option maxRecDepth 20000 in
theorem u217_1234 {x0 x1 x2 x3 : Option Value} {v w : Int32} : zk_R sc d 217 1234 [x0, x1, x2, x3] (.int w :: .int v :: st) M P = zk_R sc d 217 1235 [x0, x1, x2, x3] (.int (v + w) :: st) M P := zk_R_nx um217 (rfl : zk_lk zm_217.2.2.2.2.2 1234 = some (.iadd)) rfl
set_option maxRecDepth 20000 in
theorem u217_1236 {x0 x1 x2 x3 : Option Value} {a0 : Nat} {a1 : Int32} {a2 : Int32} {a3 : Int32} (h1 : a0 < M.1) (h2 : (zk_sh a0).1 = 0) (h3 : (zk_sh a0).2.1 = 0) : zk_R sc (d + 1) 217 1236 [x0, x1, x2, x3] [.int a3, .int a2, .int a1, .ref a0] M P = zk_R sc d 55 0 [some (.ref a0), some (.int a1), some (.int a2), some (.int a3)] [] M (fun r M' => zk_R sc (d + 1) 217 1239 [x0, x1, x2, x3] (r.toList ++ []) M' P) := zr_iv (as := [.int a1, .int a2, .int a3]) (rest := []) um217 (rfl : zk_lk zm_217.2.2.2.2.2 1236 = some (.invokevirtual 164)) rfl (rfl : zk_mt 55 = some zm_55) rfl rfl rfl rfl rfl h1 h2 h3
set_option maxRecDepth 20000 in
theorem u217_1239 {x0 x1 x3 : Option Value} {v : Nat} : zk_R sc d 217 1239 [x0, x1, some (.ref v), x3] st M P = zk_R sc d 217 1240 [x0, x1, some (.ref v), x3] (.ref v :: st) M P := zk_R_nx um217 (rfl : zk_lk zm_217.2.2.2.2.2 1239 = some (.aload_n 2)) rfl
set_option maxRecDepth 20000 in
theorem u217_1240 {x1 x2 x3 : Option Value} {v : Nat} : zk_R sc d 217 1240 [some (.ref v), x1, x2, x3] st M P = zk_R sc d 217 1241 [some (.ref v), x1, x2, x3] (.ref v :: st) M P := zk_R_nx um217 (rfl : zk_lk zm_217.2.2.2.2.2 1240 = some (.aload_n 0)) rfl
set_option maxRecDepth 20000 in
theorem u217_1241 {x0 x1 x2 : Option Value} {v : Int32} : zk_R sc d 217 1241 [x0, x1, x2, some (.int v)] st M P = zk_R sc d 217 1242 [x0, x1, x2, some (.int v)] (.int v :: st) M P := zk_R_nx um217 (rfl : zk_lk zm_217.2.2.2.2.2 1241 = some (.iload_n 3)) rfl
set_option maxRecDepth 20000 in
theorem u217_1242 {x0 x1 x2 x3 : Option Value} : zk_R sc d 217 1242 [x0, x1, x2, x3] st M P = zk_R sc d 217 1243 [x0, x1, x2, x3] (.int 1 :: st) M P := zr_iconst um217 (rfl : zk_lk zm_217.2.2.2.2.2 1242 = some (.iconst 1)) (by decide)
set_option maxRecDepth 20000 in
theorem u217_1243 {x0 x1 x2 x3 : Option Value} {v w : Int32} : zk_R sc d 217 1243 [x0, x1, x2, x3] (.int w :: .int v :: st) M P = zk_R sc d 217 1244 [x0, x1, x2, x3] (.int (v + w) :: st) M P := zk_R_nx um217 (rfl : zk_lk zm_217.2.2.2.2.2 1243 = some (.iadd)) rfl
set_option maxRecDepth 20000 in
theorem u217_1245 {x1 x2 x3 : Option Value} {v : Nat} : zk_R sc d 217 1245 [some (.ref v), x1, x2, x3] st M P = zk_R sc d 217 1246 [some (.ref v), x1, x2, x3] (.ref v :: st) M P := zk_R_nx um217 (rfl : zk_lk zm_217.2.2.2.2.2 1245 = some (.aload_n 0)) rfl
set_option maxRecDepth 20000 in
theorem u217_1246 {x0 x1 x2 : Option Value} {v : Int32} : zk_R sc d 217 1246 [x0, x1, x2, some (.int v)] st M P = zk_R sc d 217 1247 [x0, x1, x2, some (.int v)] (.int v :: st) M P := zk_R_nx um217 (rfl : zk_lk zm_217.2.2.2.2.2 1246 = some (.iload_n 3)) rfl
set_option maxRecDepth 20000 in
theorem u217_1247 {x0 x1 x2 x3 : Option Value} : zk_R sc d 217 1247 [x0, x1, x2, x3] st M P = zk_R sc d 217 1248 [x0, x1, x2, x3] (.int 2 :: st) M P := zr_iconst um217 (rfl : zk_lk zm_217.2.2.2.2.2 1247 = some (.iconst 2)) (by decide)
set_option maxRecDepth 20000 in
theorem u217_1248 {x0 x1 x2 x3 : Option Value} {v w : Int32} : zk_R sc d 217 1248 [x0, x1, x2, x3] (.int w :: .int v :: st) M P = zk_R sc d 217 1249 [x0, x1, x2, x3] (.int (v + w) :: st) M P := zk_R_nx um217 (rfl : zk_lk zm_217.2.2.2.2.2 1248 = some (.iadd)) rfl
set_option maxRecDepth 20000 in
theorem u217_1250 {x1 x2 x3 : Option Value} {v : Nat} : zk_R sc d 217 1250 [some (.ref v), x1, x2, x3] st M P = zk_R sc d 217 1251 [some (.ref v), x1, x2, x3] (.ref v :: st) M P := zk_R_nx um217 (rfl : zk_lk zm_217.2.2.2.2.2 1250 = some (.aload_n 0)) rfl
set_option maxRecDepth 20000 in
theorem u217_1251 {x0 x1 x2 : Option Value} {v : Int32} : zk_R sc d 217 1251 [x0, x1, x2, some (.int v)] st M P = zk_R sc d 217 1252 [x0, x1, x2, some (.int v)] (.int v :: st) M P := zk_R_nx um217 (rfl : zk_lk zm_217.2.2.2.2.2 1251 = some (.iload_n 3)) rfl
set_option maxRecDepth 20000 in
theorem u217_1252 {x0 x1 x2 x3 : Option Value} : zk_R sc d 217 1252 [x0, x1, x2, x3] st M P = zk_R sc d 217 1253 [x0, x1, x2, x3] (.int 3 :: st) M P := zr_iconst um217 (rfl : zk_lk zm_217.2.2.2.2.2 1252 = some (.iconst 3)) (by decide)
set_option maxRecDepth 20000 in
theorem u217_1253 {x0 x1 x2 x3 : Option Value} {v w : Int32} : zk_R sc d 217 1253 [x0, x1, x2, x3] (.int w :: .int v :: st) M P = zk_R sc d 217 1254 [x0, x1, x2, x3] (.int (v + w) :: st) M P := zk_R_nx um217 (rfl : zk_lk zm_217.2.2.2.2.2 1253 = some (.iadd)) rfl
set_option maxRecDepth 20000 in
theorem u217_1255 {x0 x1 x2 x3 : Option Value} {a0 : Nat} {a1 : Int32} {a2 : Int32} {a3 : Int32} {r0 : Int32} (h1 : a0 < M.1) (h2 : (zk_sh a0).1 = 0) (h3 : (zk_sh a0).2.1 = 6) : zk_R sc (d + 1) 217 1255 [x0, x1, x2, x3] [.int a3, .int a2, .int a1, .ref a0, .int r0] M P = zk_R sc d 211 0 [some (.ref a0), some (.int a1), some (.int a2), some (.int a3)] [] M (fun r M' => zk_R sc (d + 1) 217 1258 [x0, x1, x2, x3] (r.toList ++ [.int r0]) M' P) := zr_iv (as := [.int a1, .int a2, .int a3]) (rest := [.int r0]) um217 (rfl : zk_lk zm_217.2.2.2.2.2 1255 = some (.invokevirtual 167)) rfl (rfl : zk_mt 211 = some zm_211) rfl rfl rfl rfl rfl h1 h2 h3
set_option maxRecDepth 20000 in
theorem u217_1258 {x0 x1 x2 x3 : Option Value} {x y : Int32} : zk_R sc d 217 1258 [x0, x1, x2, x3] (.int y :: .int x :: st) M P = if x = y then zk_R sc d 217 1412 [x0, x1, x2, x3] st M P else zk_R sc d 217 1261 [x0, x1, x2, x3] st M P := zr_ic_eq um217 (rfl : zk_lk zm_217.2.2.2.2.2 1258 = some (.if_icmp .eq (154))) (by decide)
set_option maxRecDepth 20000 in
theorem u217_1261 {x0 x1 x2 x3 : Option Value} : zk_R sc d 217 1261 [x0, x1, x2, x3] st M P = zk_R sc d 217 1262 [x0, x1, x2, x3] (.int 0 :: st) M P := zr_iconst um217 (rfl : zk_lk zm_217.2.2.2.2.2 1261 = some (.iconst 0)) (by decide)
set_option maxRecDepth 20000 in
theorem u217_1262 {x0 x1 x2 x3 : Option Value} {v : Int32} : zk_R sc d 217 1262 [x0, x1, x2, x3] [.int v] M P = ((v = 0 ∨ v = 1) ∧ P (some (.int v)) M) := zr_retb um217 (rfl : zk_lk zm_217.2.2.2.2.2 1262 = some (.ireturn)) rfl
set_option maxRecDepth 20000 in
theorem u217_1263 {x0 x2 x3 : Option Value} {v : Nat} : zk_R sc d 217 1263 [x0, some (.ref v), x2, x3] st M P = zk_R sc d 217 1264 [x0, some (.ref v), x2, x3] (.ref v :: st) M P := zk_R_nx um217 (rfl : zk_lk zm_217.2.2.2.2.2 1263 = some (.aload_n 1)) rfl
set_option maxRecDepth 20000 in
theorem u217_1264 {x1 x2 x3 : Option Value} {v : Nat} : zk_R sc d 217 1264 [some (.ref v), x1, x2, x3] st M P = zk_R sc d 217 1265 [some (.ref v), x1, x2, x3] (.ref v :: st) M P := zk_R_nx um217 (rfl : zk_lk zm_217.2.2.2.2.2 1264 = some (.aload_n 0)) rfl
set_option maxRecDepth 20000 in
theorem u217_1265 {x0 x1 x2 : Option Value} {v : Int32} : zk_R sc d 217 1265 [x0, x1, x2, some (.int v)] st M P = zk_R sc d 217 1266 [x0, x1, x2, some (.int v)] (.int v :: st) M P := zk_R_nx um217 (rfl : zk_lk zm_217.2.2.2.2.2 1265 = some (.iload_n 3)) rfl
set_option maxRecDepth 20000 in
theorem u217_1266 {x0 x1 x2 x3 : Option Value} : zk_R sc d 217 1266 [x0, x1, x2, x3] st M P = zk_R sc d 217 1267 [x0, x1, x2, x3] (.int 1 :: st) M P := zr_iconst um217 (rfl : zk_lk zm_217.2.2.2.2.2 1266 = some (.iconst 1)) (by decide)
set_option maxRecDepth 20000 in
theorem u217_1267 {x0 x1 x2 x3 : Option Value} {v w : Int32} : zk_R sc d 217 1267 [x0, x1, x2, x3] (.int w :: .int v :: st) M P = zk_R sc d 217 1268 [x0, x1, x2, x3] (.int (v + w) :: st) M P := zk_R_nx um217 (rfl : zk_lk zm_217.2.2.2.2.2 1267 = some (.iadd)) rfl
set_option maxRecDepth 20000 in
theorem u217_1269 {x1 x2 x3 : Option Value} {v : Nat} : zk_R sc d 217 1269 [some (.ref v), x1, x2, x3] st M P = zk_R sc d 217 1270 [some (.ref v), x1, x2, x3] (.ref v :: st) M P := zk_R_nx um217 (rfl : zk_lk zm_217.2.2.2.2.2 1269 = some (.aload_n 0)) rfl
set_option maxRecDepth 20000 in
theorem u217_1270 {x0 x1 x2 : Option Value} {v : Int32} : zk_R sc d 217 1270 [x0, x1, x2, some (.int v)] st M P = zk_R sc d 217 1271 [x0, x1, x2, some (.int v)] (.int v :: st) M P := zk_R_nx um217 (rfl : zk_lk zm_217.2.2.2.2.2 1270 = some (.iload_n 3)) rfl
set_option maxRecDepth 20000 in
theorem u217_1271 {x0 x1 x2 x3 : Option Value} : zk_R sc d 217 1271 [x0, x1, x2, x3] st M P = zk_R sc d 217 1272 [x0, x1, x2, x3] (.int 2 :: st) M P := zr_iconst um217 (rfl : zk_lk zm_217.2.2.2.2.2 1271 = some (.iconst 2)) (by decide)
set_option maxRecDepth 20000 in
theorem u217_1272 {x0 x1 x2 x3 : Option Value} {v w : Int32} : zk_R sc d 217 1272 [x0, x1, x2, x3] (.int w :: .int v :: st) M P = zk_R sc d 217 1273 [x0, x1, x2, x3] (.int (v + w) :: st) M P := zk_R_nx um217 (rfl : zk_lk zm_217.2.2.2.2.2 1272 = some (.iadd)) rfl
set_option maxRecDepth 20000 in
theorem u217_1274 {x1 x2 x3 : Option Value} {v : Nat} : zk_R sc d 217 1274 [some (.ref v), x1, x2, x3] st M P = zk_R sc d 217 1275 [some (.ref v), x1, x2, x3] (.ref v :: st) M P := zk_R_nx um217 (rfl : zk_lk zm_217.2.2.2.2.2 1274 = some (.aload_n 0)) rfl
set_option maxRecDepth 20000 in
theorem u217_1275 {x0 x1 x2 : Option Value} {v : Int32} : zk_R sc d 217 1275 [x0, x1, x2, some (.int v)] st M P = zk_R sc d 217 1276 [x0, x1, x2, some (.int v)] (.int v :: st) M P := zk_R_nx um217 (rfl : zk_lk zm_217.2.2.2.2.2 1275 = some (.iload_n 3)) rfl
set_option maxRecDepth 20000 in
theorem u217_1276 {x0 x1 x2 x3 : Option Value} : zk_R sc d 217 1276 [x0, x1, x2, x3] st M P = zk_R sc d 217 1277 [x0, x1, x2, x3] (.int 3 :: st) M P := zr_iconst um217 (rfl : zk_lk zm_217.2.2.2.2.2 1276 = some (.iconst 3)) (by decide)
set_option maxRecDepth 20000 in
theorem u217_1277 {x0 x1 x2 x3 : Option Value} {v w : Int32} : zk_R sc d 217 1277 [x0, x1, x2, x3] (.int w :: .int v :: st) M P = zk_R sc d 217 1278 [x0, x1, x2, x3] (.int (v + w) :: st) M P := zk_R_nx um217 (rfl : zk_lk zm_217.2.2.2.2.2 1277 = some (.iadd)) rfl
set_option maxRecDepth 20000 in
theorem u217_1279 {x1 x2 x3 : Option Value} {v : Nat} : zk_R sc d 217 1279 [some (.ref v), x1, x2, x3] st M P = zk_R sc d 217 1280 [some (.ref v), x1, x2, x3] (.ref v :: st) M P := zk_R_nx um217 (rfl : zk_lk zm_217.2.2.2.2.2 1279 = some (.aload_n 0)) rfl
set_option maxRecDepth 20000 in
theorem u217_1280 {x0 x1 x2 : Option Value} {v : Int32} : zk_R sc d 217 1280 [x0, x1, x2, some (.int v)] st M P = zk_R sc d 217 1281 [x0, x1, x2, some (.int v)] (.int v :: st) M P := zk_R_nx um217 (rfl : zk_lk zm_217.2.2.2.2.2 1280 = some (.iload_n 3)) rfl
set_option maxRecDepth 20000 in
theorem u217_1281 {x0 x1 x2 x3 : Option Value} : zk_R sc d 217 1281 [x0, x1, x2, x3] st M P = zk_R sc d 217 1282 [x0, x1, x2, x3] (.int 4 :: st) M P := zr_iconst um217 (rfl : zk_lk zm_217.2.2.2.2.2 1281 = some (.iconst 4)) (by decide)
set_option maxRecDepth 20000 in
theorem u217_1282 {x0 x1 x2 x3 : Option Value} {v w : Int32} : zk_R sc d 217 1282 [x0, x1, x2, x3] (.int w :: .int v :: st) M P = zk_R sc d 217 1283 [x0, x1, x2, x3] (.int (v + w) :: st) M P := zk_R_nx um217 (rfl : zk_lk zm_217.2.2.2.2.2 1282 = some (.iadd)) rfl
set_option maxRecDepth 20000 in
theorem u217_1284 {x1 x2 x3 : Option Value} {v : Nat} : zk_R sc d 217 1284 [some (.ref v), x1, x2, x3] st M P = zk_R sc d 217 1285 [some (.ref v), x1, x2, x3] (.ref v :: st) M P := zk_R_nx um217 (rfl : zk_lk zm_217.2.2.2.2.2 1284 = some (.aload_n 0)) rfl
set_option maxRecDepth 20000 in
theorem u217_1285 {x0 x1 x2 : Option Value} {v : Int32} : zk_R sc d 217 1285 [x0, x1, x2, some (.int v)] st M P = zk_R sc d 217 1286 [x0, x1, x2, some (.int v)] (.int v :: st) M P := zk_R_nx um217 (rfl : zk_lk zm_217.2.2.2.2.2 1285 = some (.iload_n 3)) rfl
set_option maxRecDepth 20000 in
theorem u217_1286 {x0 x1 x2 x3 : Option Value} : zk_R sc d 217 1286 [x0, x1, x2, x3] st M P = zk_R sc d 217 1287 [x0, x1, x2, x3] (.int 5 :: st) M P := zr_iconst um217 (rfl : zk_lk zm_217.2.2.2.2.2 1286 = some (.iconst 5)) (by decide)
set_option maxRecDepth 20000 in
theorem u217_1287 {x0 x1 x2 x3 : Option Value} {v w : Int32} : zk_R sc d 217 1287 [x0, x1, x2, x3] (.int w :: .int v :: st) M P = zk_R sc d 217 1288 [x0, x1, x2, x3] (.int (v + w) :: st) M P := zk_R_nx um217 (rfl : zk_lk zm_217.2.2.2.2.2 1287 = some (.iadd)) rfl
set_option maxRecDepth 20000 in
theorem u217_1289 {x0 x1 x2 x3 : Option Value} {a0 : Nat} {a1 : Int32} {a2 : Int32} {a3 : Int32} {a4 : Int32} {a5 : Int32} (h1 : a0 < M.1) (h2 : (zk_sh a0).1 = 0) (h3 : (zk_sh a0).2.1 = 0) : zk_R sc (d + 1) 217 1289 [x0, x1, x2, x3] [.int a5, .int a4, .int a3, .int a2, .int a1, .ref a0] M P = zk_R sc d 56 0 [some (.ref a0), some (.int a1), some (.int a2), some (.int a3), some (.int a4), some (.int a5)] [] M (fun r M' => zk_R sc (d + 1) 217 1292 [x0, x1, x2, x3] (r.toList ++ []) M' P) := zr_iv (as := [.int a1, .int a2, .int a3, .int a4, .int a5]) (rest := []) um217 (rfl : zk_lk zm_217.2.2.2.2.2 1289 = some (.invokevirtual 168)) rfl (rfl : zk_mt 56 = some zm_56) rfl rfl rfl rfl rfl h1 h2 h3
set_option maxRecDepth 20000 in
theorem u217_1292 {x0 x1 x3 : Option Value} {v : Nat} : zk_R sc d 217 1292 [x0, x1, some (.ref v), x3] st M P = zk_R sc d 217 1293 [x0, x1, some (.ref v), x3] (.ref v :: st) M P := zk_R_nx um217 (rfl : zk_lk zm_217.2.2.2.2.2 1292 = some (.aload_n 2)) rfl
set_option maxRecDepth 20000 in
theorem u217_1293 {x1 x2 x3 : Option Value} {v : Nat} : zk_R sc d 217 1293 [some (.ref v), x1, x2, x3] st M P = zk_R sc d 217 1294 [some (.ref v), x1, x2, x3] (.ref v :: st) M P := zk_R_nx um217 (rfl : zk_lk zm_217.2.2.2.2.2 1293 = some (.aload_n 0)) rfl
set_option maxRecDepth 20000 in
theorem u217_1294 {x0 x1 x2 : Option Value} {v : Int32} : zk_R sc d 217 1294 [x0, x1, x2, some (.int v)] st M P = zk_R sc d 217 1295 [x0, x1, x2, some (.int v)] (.int v :: st) M P := zk_R_nx um217 (rfl : zk_lk zm_217.2.2.2.2.2 1294 = some (.iload_n 3)) rfl
set_option maxRecDepth 20000 in
theorem u217_1295 {x0 x1 x2 x3 : Option Value} : zk_R sc d 217 1295 [x0, x1, x2, x3] st M P = zk_R sc d 217 1296 [x0, x1, x2, x3] (.int 1 :: st) M P := zr_iconst um217 (rfl : zk_lk zm_217.2.2.2.2.2 1295 = some (.iconst 1)) (by decide)
set_option maxRecDepth 20000 in
theorem u217_1296 {x0 x1 x2 x3 : Option Value} {v w : Int32} : zk_R sc d 217 1296 [x0, x1, x2, x3] (.int w :: .int v :: st) M P = zk_R sc d 217 1297 [x0, x1, x2, x3] (.int (v + w) :: st) M P := zk_R_nx um217 (rfl : zk_lk zm_217.2.2.2.2.2 1296 = some (.iadd)) rfl
set_option maxRecDepth 20000 in
theorem u217_1298 {x1 x2 x3 : Option Value} {v : Nat} : zk_R sc d 217 1298 [some (.ref v), x1, x2, x3] st M P = zk_R sc d 217 1299 [some (.ref v), x1, x2, x3] (.ref v :: st) M P := zk_R_nx um217 (rfl : zk_lk zm_217.2.2.2.2.2 1298 = some (.aload_n 0)) rfl
set_option maxRecDepth 20000 in
theorem u217_1299 {x0 x1 x2 : Option Value} {v : Int32} : zk_R sc d 217 1299 [x0, x1, x2, some (.int v)] st M P = zk_R sc d 217 1300 [x0, x1, x2, some (.int v)] (.int v :: st) M P := zk_R_nx um217 (rfl : zk_lk zm_217.2.2.2.2.2 1299 = some (.iload_n 3)) rfl
set_option maxRecDepth 20000 in
theorem u217_1300 {x0 x1 x2 x3 : Option Value} : zk_R sc d 217 1300 [x0, x1, x2, x3] st M P = zk_R sc d 217 1301 [x0, x1, x2, x3] (.int 2 :: st) M P := zr_iconst um217 (rfl : zk_lk zm_217.2.2.2.2.2 1300 = some (.iconst 2)) (by decide)
set_option maxRecDepth 20000 in
theorem u217_1301 {x0 x1 x2 x3 : Option Value} {v w : Int32} : zk_R sc d 217 1301 [x0, x1, x2, x3] (.int w :: .int v :: st) M P = zk_R sc d 217 1302 [x0, x1, x2, x3] (.int (v + w) :: st) M P := zk_R_nx um217 (rfl : zk_lk zm_217.2.2.2.2.2 1301 = some (.iadd)) rfl
set_option maxRecDepth 20000 in
theorem u217_1303 {x1 x2 x3 : Option Value} {v : Nat} : zk_R sc d 217 1303 [some (.ref v), x1, x2, x3] st M P = zk_R sc d 217 1304 [some (.ref v), x1, x2, x3] (.ref v :: st) M P := zk_R_nx um217 (rfl : zk_lk zm_217.2.2.2.2.2 1303 = some (.aload_n 0)) rfl
set_option maxRecDepth 20000 in
theorem u217_1304 {x0 x1 x2 : Option Value} {v : Int32} : zk_R sc d 217 1304 [x0, x1, x2, some (.int v)] st M P = zk_R sc d 217 1305 [x0, x1, x2, some (.int v)] (.int v :: st) M P := zk_R_nx um217 (rfl : zk_lk zm_217.2.2.2.2.2 1304 = some (.iload_n 3)) rfl
set_option maxRecDepth 20000 in
theorem u217_1305 {x0 x1 x2 x3 : Option Value} : zk_R sc d 217 1305 [x0, x1, x2, x3] st M P = zk_R sc d 217 1306 [x0, x1, x2, x3] (.int 3 :: st) M P := zr_iconst um217 (rfl : zk_lk zm_217.2.2.2.2.2 1305 = some (.iconst 3)) (by decide)
set_option maxRecDepth 20000 in
theorem u217_1306 {x0 x1 x2 x3 : Option Value} {v w : Int32} : zk_R sc d 217 1306 [x0, x1, x2, x3] (.int w :: .int v :: st) M P = zk_R sc d 217 1307 [x0, x1, x2, x3] (.int (v + w) :: st) M P := zk_R_nx um217 (rfl : zk_lk zm_217.2.2.2.2.2 1306 = some (.iadd)) rfl
set_option maxRecDepth 20000 in
theorem u217_1308 {x1 x2 x3 : Option Value} {v : Nat} : zk_R sc d 217 1308 [some (.ref v), x1, x2, x3] st M P = zk_R sc d 217 1309 [some (.ref v), x1, x2, x3] (.ref v :: st) M P := zk_R_nx um217 (rfl : zk_lk zm_217.2.2.2.2.2 1308 = some (.aload_n 0)) rfl
set_option maxRecDepth 20000 in
theorem u217_1309 {x0 x1 x2 : Option Value} {v : Int32} : zk_R sc d 217 1309 [x0, x1, x2, some (.int v)] st M P = zk_R sc d 217 1310 [x0, x1, x2, some (.int v)] (.int v :: st) M P := zk_R_nx um217 (rfl : zk_lk zm_217.2.2.2.2.2 1309 = some (.iload_n 3)) rfl
set_option maxRecDepth 20000 in
theorem u217_1310 {x0 x1 x2 x3 : Option Value} : zk_R sc d 217 1310 [x0, x1, x2, x3] st M P = zk_R sc d 217 1311 [x0, x1, x2, x3] (.int 4 :: st) M P := zr_iconst um217 (rfl : zk_lk zm_217.2.2.2.2.2 1310 = some (.iconst 4)) (by decide)
set_option maxRecDepth 20000 in
theorem u217_1311 {x0 x1 x2 x3 : Option Value} {v w : Int32} : zk_R sc d 217 1311 [x0, x1, x2, x3] (.int w :: .int v :: st) M P = zk_R sc d 217 1312 [x0, x1, x2, x3] (.int (v + w) :: st) M P := zk_R_nx um217 (rfl : zk_lk zm_217.2.2.2.2.2 1311 = some (.iadd)) rfl
set_option maxRecDepth 20000 in
theorem u217_1313 {x1 x2 x3 : Option Value} {v : Nat} : zk_R sc d 217 1313 [some (.ref v), x1, x2, x3] st M P = zk_R sc d 217 1314 [some (.ref v), x1, x2, x3] (.ref v :: st) M P := zk_R_nx um217 (rfl : zk_lk zm_217.2.2.2.2.2 1313 = some (.aload_n 0)) rfl
set_option maxRecDepth 20000 in
theorem u217_1314 {x0 x1 x2 : Option Value} {v : Int32} : zk_R sc d 217 1314 [x0, x1, x2, some (.int v)] st M P = zk_R sc d 217 1315 [x0, x1, x2, some (.int v)] (.int v :: st) M P := zk_R_nx um217 (rfl : zk_lk zm_217.2.2.2.2.2 1314 = some (.iload_n 3)) rfl
set_option maxRecDepth 20000 in
theorem u217_1315 {x0 x1 x2 x3 : Option Value} : zk_R sc d 217 1315 [x0, x1, x2, x3] st M P = zk_R sc d 217 1316 [x0, x1, x2, x3] (.int 5 :: st) M P := zr_iconst um217 (rfl : zk_lk zm_217.2.2.2.2.2 1315 = some (.iconst 5)) (by decide)
set_option maxRecDepth 20000 in
theorem u217_1316 {x0 x1 x2 x3 : Option Value} {v w : Int32} : zk_R sc d 217 1316 [x0, x1, x2, x3] (.int w :: .int v :: st) M P = zk_R sc d 217 1317 [x0, x1, x2, x3] (.int (v + w) :: st) M P := zk_R_nx um217 (rfl : zk_lk zm_217.2.2.2.2.2 1316 = some (.iadd)) rfl
set_option maxRecDepth 20000 in
theorem u217_1318 {x0 x1 x2 x3 : Option Value} {a0 : Nat} {a1 : Int32} {a2 : Int32} {a3 : Int32} {a4 : Int32} {a5 : Int32} {r0 : Int32} (h1 : a0 < M.1) (h2 : (zk_sh a0).1 = 0) (h3 : (zk_sh a0).2.1 = 6) : zk_R sc (d + 1) 217 1318 [x0, x1, x2, x3] [.int a5, .int a4, .int a3, .int a2, .int a1, .ref a0, .int r0] M P = zk_R sc d 212 0 [some (.ref a0), some (.int a1), some (.int a2), some (.int a3), some (.int a4), some (.int a5), none, none, none, none] [] M (fun r M' => zk_R sc (d + 1) 217 1321 [x0, x1, x2, x3] (r.toList ++ [.int r0]) M' P) := zr_iv (as := [.int a1, .int a2, .int a3, .int a4, .int a5]) (rest := [.int r0]) um217 (rfl : zk_lk zm_217.2.2.2.2.2 1318 = some (.invokevirtual 172)) rfl (rfl : zk_mt 212 = some zm_212) rfl rfl rfl rfl rfl h1 h2 h3
set_option maxRecDepth 20000 in
theorem u217_1321 {x0 x1 x2 x3 : Option Value} {x y : Int32} : zk_R sc d 217 1321 [x0, x1, x2, x3] (.int y :: .int x :: st) M P = if x = y then zk_R sc d 217 1412 [x0, x1, x2, x3] st M P else zk_R sc d 217 1324 [x0, x1, x2, x3] st M P := zr_ic_eq um217 (rfl : zk_lk zm_217.2.2.2.2.2 1321 = some (.if_icmp .eq (91))) (by decide)
set_option maxRecDepth 20000 in
theorem u217_1324 {x0 x1 x2 x3 : Option Value} : zk_R sc d 217 1324 [x0, x1, x2, x3] st M P = zk_R sc d 217 1325 [x0, x1, x2, x3] (.int 0 :: st) M P := zr_iconst um217 (rfl : zk_lk zm_217.2.2.2.2.2 1324 = some (.iconst 0)) (by decide)
set_option maxRecDepth 20000 in
theorem u217_1325 {x0 x1 x2 x3 : Option Value} {v : Int32} : zk_R sc d 217 1325 [x0, x1, x2, x3] [.int v] M P = ((v = 0 ∨ v = 1) ∧ P (some (.int v)) M) := zr_retb um217 (rfl : zk_lk zm_217.2.2.2.2.2 1325 = some (.ireturn)) rfl
set_option maxRecDepth 20000 in
theorem u217_1326 {x0 x2 x3 : Option Value} {v : Nat} : zk_R sc d 217 1326 [x0, some (.ref v), x2, x3] st M P = zk_R sc d 217 1327 [x0, some (.ref v), x2, x3] (.ref v :: st) M P := zk_R_nx um217 (rfl : zk_lk zm_217.2.2.2.2.2 1326 = some (.aload_n 1)) rfl
set_option maxRecDepth 20000 in
theorem u217_1327 {x1 x2 x3 : Option Value} {v : Nat} : zk_R sc d 217 1327 [some (.ref v), x1, x2, x3] st M P = zk_R sc d 217 1328 [some (.ref v), x1, x2, x3] (.ref v :: st) M P := zk_R_nx um217 (rfl : zk_lk zm_217.2.2.2.2.2 1327 = some (.aload_n 0)) rfl
set_option maxRecDepth 20000 in
theorem u217_1328 {x0 x1 x2 : Option Value} {v : Int32} : zk_R sc d 217 1328 [x0, x1, x2, some (.int v)] st M P = zk_R sc d 217 1329 [x0, x1, x2, some (.int v)] (.int v :: st) M P := zk_R_nx um217 (rfl : zk_lk zm_217.2.2.2.2.2 1328 = some (.iload_n 3)) rfl
set_option maxRecDepth 20000 in
theorem u217_1329 {x0 x1 x2 x3 : Option Value} : zk_R sc d 217 1329 [x0, x1, x2, x3] st M P = zk_R sc d 217 1330 [x0, x1, x2, x3] (.int 1 :: st) M P := zr_iconst um217 (rfl : zk_lk zm_217.2.2.2.2.2 1329 = some (.iconst 1)) (by decide)
set_option maxRecDepth 20000 in
theorem u217_1330 {x0 x1 x2 x3 : Option Value} {v w : Int32} : zk_R sc d 217 1330 [x0, x1, x2, x3] (.int w :: .int v :: st) M P = zk_R sc d 217 1331 [x0, x1, x2, x3] (.int (v + w) :: st) M P := zk_R_nx um217 (rfl : zk_lk zm_217.2.2.2.2.2 1330 = some (.iadd)) rfl
set_option maxRecDepth 20000 in
theorem u217_1332 {x1 x2 x3 : Option Value} {v : Nat} : zk_R sc d 217 1332 [some (.ref v), x1, x2, x3] st M P = zk_R sc d 217 1333 [some (.ref v), x1, x2, x3] (.ref v :: st) M P := zk_R_nx um217 (rfl : zk_lk zm_217.2.2.2.2.2 1332 = some (.aload_n 0)) rfl
set_option maxRecDepth 20000 in
theorem u217_1333 {x0 x1 x2 : Option Value} {v : Int32} : zk_R sc d 217 1333 [x0, x1, x2, some (.int v)] st M P = zk_R sc d 217 1334 [x0, x1, x2, some (.int v)] (.int v :: st) M P := zk_R_nx um217 (rfl : zk_lk zm_217.2.2.2.2.2 1333 = some (.iload_n 3)) rfl
set_option maxRecDepth 20000 in
theorem u217_1334 {x0 x1 x2 x3 : Option Value} : zk_R sc d 217 1334 [x0, x1, x2, x3] st M P = zk_R sc d 217 1335 [x0, x1, x2, x3] (.int 2 :: st) M P := zr_iconst um217 (rfl : zk_lk zm_217.2.2.2.2.2 1334 = some (.iconst 2)) (by decide)
set_option maxRecDepth 20000 in
theorem u217_1335 {x0 x1 x2 x3 : Option Value} {v w : Int32} : zk_R sc d 217 1335 [x0, x1, x2, x3] (.int w :: .int v :: st) M P = zk_R sc d 217 1336 [x0, x1, x2, x3] (.int (v + w) :: st) M P := zk_R_nx um217 (rfl : zk_lk zm_217.2.2.2.2.2 1335 = some (.iadd)) rfl
set_option maxRecDepth 20000 in
theorem u217_1337 {x1 x2 x3 : Option Value} {v : Nat} : zk_R sc d 217 1337 [some (.ref v), x1, x2, x3] st M P = zk_R sc d 217 1338 [some (.ref v), x1, x2, x3] (.ref v :: st) M P := zk_R_nx um217 (rfl : zk_lk zm_217.2.2.2.2.2 1337 = some (.aload_n 0)) rfl
set_option maxRecDepth 20000 in
theorem u217_1338 {x0 x1 x2 : Option Value} {v : Int32} : zk_R sc d 217 1338 [x0, x1, x2, some (.int v)] st M P = zk_R sc d 217 1339 [x0, x1, x2, some (.int v)] (.int v :: st) M P := zk_R_nx um217 (rfl : zk_lk zm_217.2.2.2.2.2 1338 = some (.iload_n 3)) rfl
set_option maxRecDepth 20000 in
theorem u217_1339 {x0 x1 x2 x3 : Option Value} : zk_R sc d 217 1339 [x0, x1, x2, x3] st M P = zk_R sc d 217 1340 [x0, x1, x2, x3] (.int 3 :: st) M P := zr_iconst um217 (rfl : zk_lk zm_217.2.2.2.2.2 1339 = some (.iconst 3)) (by decide)
set_option maxRecDepth 20000 in
theorem u217_1340 {x0 x1 x2 x3 : Option Value} {v w : Int32} : zk_R sc d 217 1340 [x0, x1, x2, x3] (.int w :: .int v :: st) M P = zk_R sc d 217 1341 [x0, x1, x2, x3] (.int (v + w) :: st) M P := zk_R_nx um217 (rfl : zk_lk zm_217.2.2.2.2.2 1340 = some (.iadd)) rfl
set_option maxRecDepth 20000 in
theorem u217_1342 {x1 x2 x3 : Option Value} {v : Nat} : zk_R sc d 217 1342 [some (.ref v), x1, x2, x3] st M P = zk_R sc d 217 1343 [some (.ref v), x1, x2, x3] (.ref v :: st) M P := zk_R_nx um217 (rfl : zk_lk zm_217.2.2.2.2.2 1342 = some (.aload_n 0)) rfl
set_option maxRecDepth 20000 in
theorem u217_1343 {x0 x1 x2 : Option Value} {v : Int32} : zk_R sc d 217 1343 [x0, x1, x2, some (.int v)] st M P = zk_R sc d 217 1344 [x0, x1, x2, some (.int v)] (.int v :: st) M P := zk_R_nx um217 (rfl : zk_lk zm_217.2.2.2.2.2 1343 = some (.iload_n 3)) rfl
set_option maxRecDepth 20000 in
theorem u217_1344 {x0 x1 x2 x3 : Option Value} : zk_R sc d 217 1344 [x0, x1, x2, x3] st M P = zk_R sc d 217 1345 [x0, x1, x2, x3] (.int 4 :: st) M P := zr_iconst um217 (rfl : zk_lk zm_217.2.2.2.2.2 1344 = some (.iconst 4)) (by decide)
set_option maxRecDepth 20000 in
theorem u217_1345 {x0 x1 x2 x3 : Option Value} {v w : Int32} : zk_R sc d 217 1345 [x0, x1, x2, x3] (.int w :: .int v :: st) M P = zk_R sc d 217 1346 [x0, x1, x2, x3] (.int (v + w) :: st) M P := zk_R_nx um217 (rfl : zk_lk zm_217.2.2.2.2.2 1345 = some (.iadd)) rfl
set_option maxRecDepth 20000 in
theorem u217_1347 {x0 x1 x2 x3 : Option Value} {a0 : Nat} {a1 : Int32} {a2 : Int32} {a3 : Int32} {a4 : Int32} (h1 : a0 < M.1) (h2 : (zk_sh a0).1 = 0) (h3 : (zk_sh a0).2.1 = 0) : zk_R sc (d + 1) 217 1347 [x0, x1, x2, x3] [.int a4, .int a3, .int a2, .int a1, .ref a0] M P = zk_R sc d 57 0 [some (.ref a0), some (.int a1), some (.int a2), some (.int a3), some (.int a4), none, none, none] [] M (fun r M' => zk_R sc (d + 1) 217 1350 [x0, x1, x2, x3] (r.toList ++ []) M' P) := zr_iv (as := [.int a1, .int a2, .int a3, .int a4]) (rest := []) um217 (rfl : zk_lk zm_217.2.2.2.2.2 1347 = some (.invokevirtual 173)) rfl (rfl : zk_mt 57 = some zm_57) rfl rfl rfl rfl rfl h1 h2 h3
set_option maxRecDepth 20000 in
theorem u217_1350 {x0 x1 x3 : Option Value} {v : Nat} : zk_R sc d 217 1350 [x0, x1, some (.ref v), x3] st M P = zk_R sc d 217 1351 [x0, x1, some (.ref v), x3] (.ref v :: st) M P := zk_R_nx um217 (rfl : zk_lk zm_217.2.2.2.2.2 1350 = some (.aload_n 2)) rfl
set_option maxRecDepth 20000 in
theorem u217_1351 {x1 x2 x3 : Option Value} {v : Nat} : zk_R sc d 217 1351 [some (.ref v), x1, x2, x3] st M P = zk_R sc d 217 1352 [some (.ref v), x1, x2, x3] (.ref v :: st) M P := zk_R_nx um217 (rfl : zk_lk zm_217.2.2.2.2.2 1351 = some (.aload_n 0)) rfl
set_option maxRecDepth 20000 in
theorem u217_1352 {x0 x1 x2 : Option Value} {v : Int32} : zk_R sc d 217 1352 [x0, x1, x2, some (.int v)] st M P = zk_R sc d 217 1353 [x0, x1, x2, some (.int v)] (.int v :: st) M P := zk_R_nx um217 (rfl : zk_lk zm_217.2.2.2.2.2 1352 = some (.iload_n 3)) rfl
set_option maxRecDepth 20000 in
theorem u217_1353 {x0 x1 x2 x3 : Option Value} : zk_R sc d 217 1353 [x0, x1, x2, x3] st M P = zk_R sc d 217 1354 [x0, x1, x2, x3] (.int 1 :: st) M P := zr_iconst um217 (rfl : zk_lk zm_217.2.2.2.2.2 1353 = some (.iconst 1)) (by decide)
set_option maxRecDepth 20000 in
theorem u217_1354 {x0 x1 x2 x3 : Option Value} {v w : Int32} : zk_R sc d 217 1354 [x0, x1, x2, x3] (.int w :: .int v :: st) M P = zk_R sc d 217 1355 [x0, x1, x2, x3] (.int (v + w) :: st) M P := zk_R_nx um217 (rfl : zk_lk zm_217.2.2.2.2.2 1354 = some (.iadd)) rfl
set_option maxRecDepth 20000 in
theorem u217_1356 {x1 x2 x3 : Option Value} {v : Nat} : zk_R sc d 217 1356 [some (.ref v), x1, x2, x3] st M P = zk_R sc d 217 1357 [some (.ref v), x1, x2, x3] (.ref v :: st) M P := zk_R_nx um217 (rfl : zk_lk zm_217.2.2.2.2.2 1356 = some (.aload_n 0)) rfl
set_option maxRecDepth 20000 in
theorem u217_1357 {x0 x1 x2 : Option Value} {v : Int32} : zk_R sc d 217 1357 [x0, x1, x2, some (.int v)] st M P = zk_R sc d 217 1358 [x0, x1, x2, some (.int v)] (.int v :: st) M P := zk_R_nx um217 (rfl : zk_lk zm_217.2.2.2.2.2 1357 = some (.iload_n 3)) rfl
set_option maxRecDepth 20000 in
theorem u217_1358 {x0 x1 x2 x3 : Option Value} : zk_R sc d 217 1358 [x0, x1, x2, x3] st M P = zk_R sc d 217 1359 [x0, x1, x2, x3] (.int 2 :: st) M P := zr_iconst um217 (rfl : zk_lk zm_217.2.2.2.2.2 1358 = some (.iconst 2)) (by decide)
set_option maxRecDepth 20000 in
theorem u217_1359 {x0 x1 x2 x3 : Option Value} {v w : Int32} : zk_R sc d 217 1359 [x0, x1, x2, x3] (.int w :: .int v :: st) M P = zk_R sc d 217 1360 [x0, x1, x2, x3] (.int (v + w) :: st) M P := zk_R_nx um217 (rfl : zk_lk zm_217.2.2.2.2.2 1359 = some (.iadd)) rfl
set_option maxRecDepth 20000 in
theorem u217_1361 {x1 x2 x3 : Option Value} {v : Nat} : zk_R sc d 217 1361 [some (.ref v), x1, x2, x3] st M P = zk_R sc d 217 1362 [some (.ref v), x1, x2, x3] (.ref v :: st) M P := zk_R_nx um217 (rfl : zk_lk zm_217.2.2.2.2.2 1361 = some (.aload_n 0)) rfl
set_option maxRecDepth 20000 in
theorem u217_1362 {x0 x1 x2 : Option Value} {v : Int32} : zk_R sc d 217 1362 [x0, x1, x2, some (.int v)] st M P = zk_R sc d 217 1363 [x0, x1, x2, some (.int v)] (.int v :: st) M P := zk_R_nx um217 (rfl : zk_lk zm_217.2.2.2.2.2 1362 = some (.iload_n 3)) rfl
set_option maxRecDepth 20000 in
theorem u217_1363 {x0 x1 x2 x3 : Option Value} : zk_R sc d 217 1363 [x0, x1, x2, x3] st M P = zk_R sc d 217 1364 [x0, x1, x2, x3] (.int 3 :: st) M P := zr_iconst um217 (rfl : zk_lk zm_217.2.2.2.2.2 1363 = some (.iconst 3)) (by decide)
set_option maxRecDepth 20000 in
theorem u217_1364 {x0 x1 x2 x3 : Option Value} {v w : Int32} : zk_R sc d 217 1364 [x0, x1, x2, x3] (.int w :: .int v :: st) M P = zk_R sc d 217 1365 [x0, x1, x2, x3] (.int (v + w) :: st) M P := zk_R_nx um217 (rfl : zk_lk zm_217.2.2.2.2.2 1364 = some (.iadd)) rfl
set_option maxRecDepth 20000 in
theorem u217_1366 {x1 x2 x3 : Option Value} {v : Nat} : zk_R sc d 217 1366 [some (.ref v), x1, x2, x3] st M P = zk_R sc d 217 1367 [some (.ref v), x1, x2, x3] (.ref v :: st) M P := zk_R_nx um217 (rfl : zk_lk zm_217.2.2.2.2.2 1366 = some (.aload_n 0)) rfl
set_option maxRecDepth 20000 in
theorem u217_1367 {x0 x1 x2 : Option Value} {v : Int32} : zk_R sc d 217 1367 [x0, x1, x2, some (.int v)] st M P = zk_R sc d 217 1368 [x0, x1, x2, some (.int v)] (.int v :: st) M P := zk_R_nx um217 (rfl : zk_lk zm_217.2.2.2.2.2 1367 = some (.iload_n 3)) rfl
set_option maxRecDepth 20000 in
theorem u217_1368 {x0 x1 x2 x3 : Option Value} : zk_R sc d 217 1368 [x0, x1, x2, x3] st M P = zk_R sc d 217 1369 [x0, x1, x2, x3] (.int 4 :: st) M P := zr_iconst um217 (rfl : zk_lk zm_217.2.2.2.2.2 1368 = some (.iconst 4)) (by decide)
set_option maxRecDepth 20000 in
theorem u217_1369 {x0 x1 x2 x3 : Option Value} {v w : Int32} : zk_R sc d 217 1369 [x0, x1, x2, x3] (.int w :: .int v :: st) M P = zk_R sc d 217 1370 [x0, x1, x2, x3] (.int (v + w) :: st) M P := zk_R_nx um217 (rfl : zk_lk zm_217.2.2.2.2.2 1369 = some (.iadd)) rfl
set_option maxRecDepth 20000 in
theorem u217_1371 {x0 x1 x2 x3 : Option Value} {a0 : Nat} {a1 : Int32} {a2 : Int32} {a3 : Int32} {a4 : Int32} {r0 : Int32} (h1 : a0 < M.1) (h2 : (zk_sh a0).1 = 0) (h3 : (zk_sh a0).2.1 = 6) : zk_R sc (d + 1) 217 1371 [x0, x1, x2, x3] [.int a4, .int a3, .int a2, .int a1, .ref a0, .int r0] M P = zk_R sc d 213 0 [some (.ref a0), some (.int a1), some (.int a2), some (.int a3), some (.int a4), none, none, none, none] [] M (fun r M' => zk_R sc (d + 1) 217 1374 [x0, x1, x2, x3] (r.toList ++ [.int r0]) M' P) := zr_iv (as := [.int a1, .int a2, .int a3, .int a4]) (rest := [.int r0]) um217 (rfl : zk_lk zm_217.2.2.2.2.2 1371 = some (.invokevirtual 177)) rfl (rfl : zk_mt 213 = some zm_213) rfl rfl rfl rfl rfl h1 h2 h3
set_option maxRecDepth 20000 in
theorem u217_1374 {x0 x1 x2 x3 : Option Value} {x y : Int32} : zk_R sc d 217 1374 [x0, x1, x2, x3] (.int y :: .int x :: st) M P = if x = y then zk_R sc d 217 1412 [x0, x1, x2, x3] st M P else zk_R sc d 217 1377 [x0, x1, x2, x3] st M P := zr_ic_eq um217 (rfl : zk_lk zm_217.2.2.2.2.2 1374 = some (.if_icmp .eq (38))) (by decide)
set_option maxRecDepth 20000 in
theorem u217_1377 {x0 x1 x2 x3 : Option Value} : zk_R sc d 217 1377 [x0, x1, x2, x3] st M P = zk_R sc d 217 1378 [x0, x1, x2, x3] (.int 0 :: st) M P := zr_iconst um217 (rfl : zk_lk zm_217.2.2.2.2.2 1377 = some (.iconst 0)) (by decide)
set_option maxRecDepth 20000 in
theorem u217_1378 {x0 x1 x2 x3 : Option Value} {v : Int32} : zk_R sc d 217 1378 [x0, x1, x2, x3] [.int v] M P = ((v = 0 ∨ v = 1) ∧ P (some (.int v)) M) := zr_retb um217 (rfl : zk_lk zm_217.2.2.2.2.2 1378 = some (.ireturn)) rfl
set_option maxRecDepth 20000 in
theorem u217_1379 {x0 x2 x3 : Option Value} {v : Nat} : zk_R sc d 217 1379 [x0, some (.ref v), x2, x3] st M P = zk_R sc d 217 1380 [x0, some (.ref v), x2, x3] (.ref v :: st) M P := zk_R_nx um217 (rfl : zk_lk zm_217.2.2.2.2.2 1379 = some (.aload_n 1)) rfl
set_option maxRecDepth 20000 in
theorem u217_1380 {x1 x2 x3 : Option Value} {v : Nat} : zk_R sc d 217 1380 [some (.ref v), x1, x2, x3] st M P = zk_R sc d 217 1381 [some (.ref v), x1, x2, x3] (.ref v :: st) M P := zk_R_nx um217 (rfl : zk_lk zm_217.2.2.2.2.2 1380 = some (.aload_n 0)) rfl
set_option maxRecDepth 20000 in
theorem u217_1381 {x0 x1 x2 : Option Value} {v : Int32} : zk_R sc d 217 1381 [x0, x1, x2, some (.int v)] st M P = zk_R sc d 217 1382 [x0, x1, x2, some (.int v)] (.int v :: st) M P := zk_R_nx um217 (rfl : zk_lk zm_217.2.2.2.2.2 1381 = some (.iload_n 3)) rfl
set_option maxRecDepth 20000 in
theorem u217_1382 {x0 x1 x2 x3 : Option Value} : zk_R sc d 217 1382 [x0, x1, x2, x3] st M P = zk_R sc d 217 1383 [x0, x1, x2, x3] (.int 1 :: st) M P := zr_iconst um217 (rfl : zk_lk zm_217.2.2.2.2.2 1382 = some (.iconst 1)) (by decide)
set_option maxRecDepth 20000 in
theorem u217_1383 {x0 x1 x2 x3 : Option Value} {v w : Int32} : zk_R sc d 217 1383 [x0, x1, x2, x3] (.int w :: .int v :: st) M P = zk_R sc d 217 1384 [x0, x1, x2, x3] (.int (v + w) :: st) M P := zk_R_nx um217 (rfl : zk_lk zm_217.2.2.2.2.2 1383 = some (.iadd)) rfl
set_option maxRecDepth 20000 in
theorem u217_1385 {x1 x2 x3 : Option Value} {v : Nat} : zk_R sc d 217 1385 [some (.ref v), x1, x2, x3] st M P = zk_R sc d 217 1386 [some (.ref v), x1, x2, x3] (.ref v :: st) M P := zk_R_nx um217 (rfl : zk_lk zm_217.2.2.2.2.2 1385 = some (.aload_n 0)) rfl
set_option maxRecDepth 20000 in
theorem u217_1386 {x0 x1 x2 : Option Value} {v : Int32} : zk_R sc d 217 1386 [x0, x1, x2, some (.int v)] st M P = zk_R sc d 217 1387 [x0, x1, x2, some (.int v)] (.int v :: st) M P := zk_R_nx um217 (rfl : zk_lk zm_217.2.2.2.2.2 1386 = some (.iload_n 3)) rfl
set_option maxRecDepth 20000 in
theorem u217_1387 {x0 x1 x2 x3 : Option Value} : zk_R sc d 217 1387 [x0, x1, x2, x3] st M P = zk_R sc d 217 1388 [x0, x1, x2, x3] (.int 2 :: st) M P := zr_iconst um217 (rfl : zk_lk zm_217.2.2.2.2.2 1387 = some (.iconst 2)) (by decide)
set_option maxRecDepth 20000 in
theorem u217_1388 {x0 x1 x2 x3 : Option Value} {v w : Int32} : zk_R sc d 217 1388 [x0, x1, x2, x3] (.int w :: .int v :: st) M P = zk_R sc d 217 1389 [x0, x1, x2, x3] (.int (v + w) :: st) M P := zk_R_nx um217 (rfl : zk_lk zm_217.2.2.2.2.2 1388 = some (.iadd)) rfl
set_option maxRecDepth 20000 in
theorem u217_1390 {x0 x1 x2 x3 : Option Value} {a0 : Nat} {a1 : Int32} {a2 : Int32} (h1 : a0 < M.1) (h2 : (zk_sh a0).1 = 0) (h3 : (zk_sh a0).2.1 = 0) : zk_R sc (d + 1) 217 1390 [x0, x1, x2, x3] [.int a2, .int a1, .ref a0] M P = zk_R sc d 58 0 [some (.ref a0), some (.int a1), some (.int a2)] [] M (fun r M' => zk_R sc (d + 1) 217 1393 [x0, x1, x2, x3] (r.toList ++ []) M' P) := zr_iv (as := [.int a1, .int a2]) (rest := []) um217 (rfl : zk_lk zm_217.2.2.2.2.2 1390 = some (.invokevirtual 178)) rfl (rfl : zk_mt 58 = some zm_58) rfl rfl rfl rfl rfl h1 h2 h3
set_option maxRecDepth 20000 in
theorem u217_1393 {x0 x1 x3 : Option Value} {v : Nat} : zk_R sc d 217 1393 [x0, x1, some (.ref v), x3] st M P = zk_R sc d 217 1394 [x0, x1, some (.ref v), x3] (.ref v :: st) M P := zk_R_nx um217 (rfl : zk_lk zm_217.2.2.2.2.2 1393 = some (.aload_n 2)) rfl
set_option maxRecDepth 20000 in
theorem u217_1394 {x1 x2 x3 : Option Value} {v : Nat} : zk_R sc d 217 1394 [some (.ref v), x1, x2, x3] st M P = zk_R sc d 217 1395 [some (.ref v), x1, x2, x3] (.ref v :: st) M P := zk_R_nx um217 (rfl : zk_lk zm_217.2.2.2.2.2 1394 = some (.aload_n 0)) rfl
set_option maxRecDepth 20000 in
theorem u217_1395 {x0 x1 x2 : Option Value} {v : Int32} : zk_R sc d 217 1395 [x0, x1, x2, some (.int v)] st M P = zk_R sc d 217 1396 [x0, x1, x2, some (.int v)] (.int v :: st) M P := zk_R_nx um217 (rfl : zk_lk zm_217.2.2.2.2.2 1395 = some (.iload_n 3)) rfl
set_option maxRecDepth 20000 in
theorem u217_1396 {x0 x1 x2 x3 : Option Value} : zk_R sc d 217 1396 [x0, x1, x2, x3] st M P = zk_R sc d 217 1397 [x0, x1, x2, x3] (.int 1 :: st) M P := zr_iconst um217 (rfl : zk_lk zm_217.2.2.2.2.2 1396 = some (.iconst 1)) (by decide)
set_option maxRecDepth 20000 in
theorem u217_1397 {x0 x1 x2 x3 : Option Value} {v w : Int32} : zk_R sc d 217 1397 [x0, x1, x2, x3] (.int w :: .int v :: st) M P = zk_R sc d 217 1398 [x0, x1, x2, x3] (.int (v + w) :: st) M P := zk_R_nx um217 (rfl : zk_lk zm_217.2.2.2.2.2 1397 = some (.iadd)) rfl
set_option maxRecDepth 20000 in
theorem u217_1399 {x1 x2 x3 : Option Value} {v : Nat} : zk_R sc d 217 1399 [some (.ref v), x1, x2, x3] st M P = zk_R sc d 217 1400 [some (.ref v), x1, x2, x3] (.ref v :: st) M P := zk_R_nx um217 (rfl : zk_lk zm_217.2.2.2.2.2 1399 = some (.aload_n 0)) rfl
set_option maxRecDepth 20000 in
theorem u217_1400 {x0 x1 x2 : Option Value} {v : Int32} : zk_R sc d 217 1400 [x0, x1, x2, some (.int v)] st M P = zk_R sc d 217 1401 [x0, x1, x2, some (.int v)] (.int v :: st) M P := zk_R_nx um217 (rfl : zk_lk zm_217.2.2.2.2.2 1400 = some (.iload_n 3)) rfl
set_option maxRecDepth 20000 in
theorem u217_1401 {x0 x1 x2 x3 : Option Value} : zk_R sc d 217 1401 [x0, x1, x2, x3] st M P = zk_R sc d 217 1402 [x0, x1, x2, x3] (.int 2 :: st) M P := zr_iconst um217 (rfl : zk_lk zm_217.2.2.2.2.2 1401 = some (.iconst 2)) (by decide)
set_option maxRecDepth 20000 in
theorem u217_1402 {x0 x1 x2 x3 : Option Value} {v w : Int32} : zk_R sc d 217 1402 [x0, x1, x2, x3] (.int w :: .int v :: st) M P = zk_R sc d 217 1403 [x0, x1, x2, x3] (.int (v + w) :: st) M P := zk_R_nx um217 (rfl : zk_lk zm_217.2.2.2.2.2 1402 = some (.iadd)) rfl
set_option maxRecDepth 20000 in
theorem u217_1404 {x0 x1 x2 x3 : Option Value} {a0 : Nat} {a1 : Int32} {a2 : Int32} {r0 : Int32} (h1 : a0 < M.1) (h2 : (zk_sh a0).1 = 0) (h3 : (zk_sh a0).2.1 = 6) : zk_R sc (d + 1) 217 1404 [x0, x1, x2, x3] [.int a2, .int a1, .ref a0, .int r0] M P = zk_R sc d 214 0 [some (.ref a0), some (.int a1), some (.int a2)] [] M (fun r M' => zk_R sc (d + 1) 217 1407 [x0, x1, x2, x3] (r.toList ++ [.int r0]) M' P) := zr_iv (as := [.int a1, .int a2]) (rest := [.int r0]) um217 (rfl : zk_lk zm_217.2.2.2.2.2 1404 = some (.invokevirtual 181)) rfl (rfl : zk_mt 214 = some zm_214) rfl rfl rfl rfl rfl h1 h2 h3
set_option maxRecDepth 20000 in
theorem u217_1407 {x0 x1 x2 x3 : Option Value} {x y : Int32} : zk_R sc d 217 1407 [x0, x1, x2, x3] (.int y :: .int x :: st) M P = if x = y then zk_R sc d 217 1412 [x0, x1, x2, x3] st M P else zk_R sc d 217 1410 [x0, x1, x2, x3] st M P := zr_ic_eq um217 (rfl : zk_lk zm_217.2.2.2.2.2 1407 = some (.if_icmp .eq (5))) (by decide)
set_option maxRecDepth 20000 in
theorem u217_1410 {x0 x1 x2 x3 : Option Value} : zk_R sc d 217 1410 [x0, x1, x2, x3] st M P = zk_R sc d 217 1411 [x0, x1, x2, x3] (.int 0 :: st) M P := zr_iconst um217 (rfl : zk_lk zm_217.2.2.2.2.2 1410 = some (.iconst 0)) (by decide)
set_option maxRecDepth 20000 in
theorem u217_1411 {x0 x1 x2 x3 : Option Value} {v : Int32} : zk_R sc d 217 1411 [x0, x1, x2, x3] [.int v] M P = ((v = 0 ∨ v = 1) ∧ P (some (.int v)) M) := zr_retb um217 (rfl : zk_lk zm_217.2.2.2.2.2 1411 = some (.ireturn)) rfl
set_option maxRecDepth 20000 in
theorem u217_1412 {x0 x1 x2 : Option Value} {v : Int32} : zk_R sc d 217 1412 [x0, x1, x2, some (.int v)] st M P = zk_R sc d 217 1415 [x0, x1, x2, some (.int (v + 7))] st M P := zr_iinc um217 (rfl : zk_lk zm_217.2.2.2.2.2 1412 = some (.iinc 3 7)) rfl rfl (by decide)
set_option maxRecDepth 20000 in
theorem u217_1415 {x0 x1 x2 x3 : Option Value} : zk_R sc d 217 1415 [x0, x1, x2, x3] st M P = zk_R sc d 217 18 [x0, x1, x2, x3] st M P := zr_goto um217 (rfl : zk_lk zm_217.2.2.2.2.2 1415 = some (.goto (-1397))) (by decide)
set_option maxRecDepth 20000 in
theorem u217_1418 {x0 x1 x2 x3 : Option Value} : zk_R sc d 217 1418 [x0, x1, x2, x3] st M P = zk_R sc d 217 1419 [x0, x1, x2, x3] (.int 1 :: st) M P := zr_iconst um217 (rfl : zk_lk zm_217.2.2.2.2.2 1418 = some (.iconst 1)) (by decide)
set_option maxRecDepth 20000 in
theorem u217_1419 {x0 x1 x2 x3 : Option Value} {v : Int32} : zk_R sc d 217 1419 [x0, x1, x2, x3] [.int v] M P = ((v = 0 ∨ v = 1) ∧ P (some (.int v)) M) := zr_retb um217 (rfl : zk_lk zm_217.2.2.2.2.2 1419 = some (.ireturn)) rfl
set_option maxRecDepth 20000 in
theorem u217_20 {x0 x1 x2 x3 : Option Value} {L : Nat} {xs : Nat → Int32} (h1 : M.1 ≤ 1000) : zk_R (some (L, xs)) d 217 20 [x0, x1, x2, x3] (.ref (1000 : Nat) :: st) M P = zk_R (some (L, xs)) d 217 21 [x0, x1, x2, x3] (.int (nI L) :: st) M P := zr_alenx um217 (rfl : zk_lk zm_217.2.2.2.2.2 20 = some (.arraylength)) h1 rfl
set_option maxRecDepth 20000 in
theorem u217_29 {x0 x1 x2 x3 : Option Value} {i : Int32} {L : Nat} {xs : Nat → Int32} (h1 : M.1 ≤ 1000) : zk_R (some (L, xs)) d 217 29 [x0, x1, x2, x3] (.int i :: .ref (1000 : Nat) :: st) M P = (zk_inb i L = true ∧ zk_R (some (L, xs)) d 217 30 [x0, x1, x2, x3] (.int (xs i.toNatClampNeg) :: st) M P) := zr_ialdx um217 (rfl : zk_lk zm_217.2.2.2.2.2 29 = some (.iaload)) h1 rfl
set_option maxRecDepth 20000 in
theorem u217_213 {x0 x1 x2 x3 : Option Value} {i : Int32} {L : Nat} {xs : Nat → Int32} (h1 : M.1 ≤ 1000) : zk_R (some (L, xs)) d 217 213 [x0, x1, x2, x3] (.int i :: .ref (1000 : Nat) :: st) M P = (zk_inb i L = true ∧ zk_R (some (L, xs)) d 217 214 [x0, x1, x2, x3] (.int (xs i.toNatClampNeg) :: st) M P) := zr_ialdx um217 (rfl : zk_lk zm_217.2.2.2.2.2 213 = some (.iaload)) h1 rfl
set_option maxRecDepth 20000 in
theorem u217_222 {x0 x1 x2 x3 : Option Value} {i : Int32} {L : Nat} {xs : Nat → Int32} (h1 : M.1 ≤ 1000) : zk_R (some (L, xs)) d 217 222 [x0, x1, x2, x3] (.int i :: .ref (1000 : Nat) :: st) M P = (zk_inb i L = true ∧ zk_R (some (L, xs)) d 217 223 [x0, x1, x2, x3] (.int (xs i.toNatClampNeg) :: st) M P) := zr_ialdx um217 (rfl : zk_lk zm_217.2.2.2.2.2 222 = some (.iaload)) h1 rfl
set_option maxRecDepth 20000 in
theorem u217_236 {x0 x1 x2 x3 : Option Value} {i : Int32} {L : Nat} {xs : Nat → Int32} (h1 : M.1 ≤ 1000) : zk_R (some (L, xs)) d 217 236 [x0, x1, x2, x3] (.int i :: .ref (1000 : Nat) :: st) M P = (zk_inb i L = true ∧ zk_R (some (L, xs)) d 217 237 [x0, x1, x2, x3] (.int (xs i.toNatClampNeg) :: st) M P) := zr_ialdx um217 (rfl : zk_lk zm_217.2.2.2.2.2 236 = some (.iaload)) h1 rfl
set_option maxRecDepth 20000 in
theorem u217_241 {x0 x1 x2 x3 : Option Value} {i : Int32} {L : Nat} {xs : Nat → Int32} (h1 : M.1 ≤ 1000) : zk_R (some (L, xs)) d 217 241 [x0, x1, x2, x3] (.int i :: .ref (1000 : Nat) :: st) M P = (zk_inb i L = true ∧ zk_R (some (L, xs)) d 217 242 [x0, x1, x2, x3] (.int (xs i.toNatClampNeg) :: st) M P) := zr_ialdx um217 (rfl : zk_lk zm_217.2.2.2.2.2 241 = some (.iaload)) h1 rfl
set_option maxRecDepth 20000 in
theorem u217_246 {x0 x1 x2 x3 : Option Value} {i : Int32} {L : Nat} {xs : Nat → Int32} (h1 : M.1 ≤ 1000) : zk_R (some (L, xs)) d 217 246 [x0, x1, x2, x3] (.int i :: .ref (1000 : Nat) :: st) M P = (zk_inb i L = true ∧ zk_R (some (L, xs)) d 217 247 [x0, x1, x2, x3] (.int (xs i.toNatClampNeg) :: st) M P) := zr_ialdx um217 (rfl : zk_lk zm_217.2.2.2.2.2 246 = some (.iaload)) h1 rfl
set_option maxRecDepth 20000 in
theorem u217_251 {x0 x1 x2 x3 : Option Value} {i : Int32} {L : Nat} {xs : Nat → Int32} (h1 : M.1 ≤ 1000) : zk_R (some (L, xs)) d 217 251 [x0, x1, x2, x3] (.int i :: .ref (1000 : Nat) :: st) M P = (zk_inb i L = true ∧ zk_R (some (L, xs)) d 217 252 [x0, x1, x2, x3] (.int (xs i.toNatClampNeg) :: st) M P) := zr_ialdx um217 (rfl : zk_lk zm_217.2.2.2.2.2 251 = some (.iaload)) h1 rfl
set_option maxRecDepth 20000 in
theorem u217_256 {x0 x1 x2 x3 : Option Value} {i : Int32} {L : Nat} {xs : Nat → Int32} (h1 : M.1 ≤ 1000) : zk_R (some (L, xs)) d 217 256 [x0, x1, x2, x3] (.int i :: .ref (1000 : Nat) :: st) M P = (zk_inb i L = true ∧ zk_R (some (L, xs)) d 217 257 [x0, x1, x2, x3] (.int (xs i.toNatClampNeg) :: st) M P) := zr_ialdx um217 (rfl : zk_lk zm_217.2.2.2.2.2 256 = some (.iaload)) h1 rfl
set_option maxRecDepth 20000 in
theorem u217_262 {x0 x1 x2 x3 : Option Value} {i : Int32} {L : Nat} {xs : Nat → Int32} (h1 : M.1 ≤ 1000) : zk_R (some (L, xs)) d 217 262 [x0, x1, x2, x3] (.int i :: .ref (1000 : Nat) :: st) M P = (zk_inb i L = true ∧ zk_R (some (L, xs)) d 217 263 [x0, x1, x2, x3] (.int (xs i.toNatClampNeg) :: st) M P) := zr_ialdx um217 (rfl : zk_lk zm_217.2.2.2.2.2 262 = some (.iaload)) h1 rfl
set_option maxRecDepth 20000 in
theorem u217_271 {x0 x1 x2 x3 : Option Value} {i : Int32} {L : Nat} {xs : Nat → Int32} (h1 : M.1 ≤ 1000) : zk_R (some (L, xs)) d 217 271 [x0, x1, x2, x3] (.int i :: .ref (1000 : Nat) :: st) M P = (zk_inb i L = true ∧ zk_R (some (L, xs)) d 217 272 [x0, x1, x2, x3] (.int (xs i.toNatClampNeg) :: st) M P) := zr_ialdx um217 (rfl : zk_lk zm_217.2.2.2.2.2 271 = some (.iaload)) h1 rfl
set_option maxRecDepth 20000 in
theorem u217_276 {x0 x1 x2 x3 : Option Value} {i : Int32} {L : Nat} {xs : Nat → Int32} (h1 : M.1 ≤ 1000) : zk_R (some (L, xs)) d 217 276 [x0, x1, x2, x3] (.int i :: .ref (1000 : Nat) :: st) M P = (zk_inb i L = true ∧ zk_R (some (L, xs)) d 217 277 [x0, x1, x2, x3] (.int (xs i.toNatClampNeg) :: st) M P) := zr_ialdx um217 (rfl : zk_lk zm_217.2.2.2.2.2 276 = some (.iaload)) h1 rfl
set_option maxRecDepth 20000 in
theorem u217_281 {x0 x1 x2 x3 : Option Value} {i : Int32} {L : Nat} {xs : Nat → Int32} (h1 : M.1 ≤ 1000) : zk_R (some (L, xs)) d 217 281 [x0, x1, x2, x3] (.int i :: .ref (1000 : Nat) :: st) M P = (zk_inb i L = true ∧ zk_R (some (L, xs)) d 217 282 [x0, x1, x2, x3] (.int (xs i.toNatClampNeg) :: st) M P) := zr_ialdx um217 (rfl : zk_lk zm_217.2.2.2.2.2 281 = some (.iaload)) h1 rfl
set_option maxRecDepth 20000 in
theorem u217_286 {x0 x1 x2 x3 : Option Value} {i : Int32} {L : Nat} {xs : Nat → Int32} (h1 : M.1 ≤ 1000) : zk_R (some (L, xs)) d 217 286 [x0, x1, x2, x3] (.int i :: .ref (1000 : Nat) :: st) M P = (zk_inb i L = true ∧ zk_R (some (L, xs)) d 217 287 [x0, x1, x2, x3] (.int (xs i.toNatClampNeg) :: st) M P) := zr_ialdx um217 (rfl : zk_lk zm_217.2.2.2.2.2 286 = some (.iaload)) h1 rfl
set_option maxRecDepth 20000 in
theorem u217_291 {x0 x1 x2 x3 : Option Value} {i : Int32} {L : Nat} {xs : Nat → Int32} (h1 : M.1 ≤ 1000) : zk_R (some (L, xs)) d 217 291 [x0, x1, x2, x3] (.int i :: .ref (1000 : Nat) :: st) M P = (zk_inb i L = true ∧ zk_R (some (L, xs)) d 217 292 [x0, x1, x2, x3] (.int (xs i.toNatClampNeg) :: st) M P) := zr_ialdx um217 (rfl : zk_lk zm_217.2.2.2.2.2 291 = some (.iaload)) h1 rfl
set_option maxRecDepth 20000 in
theorem u217_297 {x0 x1 x2 x3 : Option Value} {i : Int32} {L : Nat} {xs : Nat → Int32} (h1 : M.1 ≤ 1000) : zk_R (some (L, xs)) d 217 297 [x0, x1, x2, x3] (.int i :: .ref (1000 : Nat) :: st) M P = (zk_inb i L = true ∧ zk_R (some (L, xs)) d 217 298 [x0, x1, x2, x3] (.int (xs i.toNatClampNeg) :: st) M P) := zr_ialdx um217 (rfl : zk_lk zm_217.2.2.2.2.2 297 = some (.iaload)) h1 rfl
set_option maxRecDepth 20000 in
theorem u217_324 {x0 x1 x2 x3 : Option Value} {i : Int32} {L : Nat} {xs : Nat → Int32} (h1 : M.1 ≤ 1000) : zk_R (some (L, xs)) d 217 324 [x0, x1, x2, x3] (.int i :: .ref (1000 : Nat) :: st) M P = (zk_inb i L = true ∧ zk_R (some (L, xs)) d 217 325 [x0, x1, x2, x3] (.int (xs i.toNatClampNeg) :: st) M P) := zr_ialdx um217 (rfl : zk_lk zm_217.2.2.2.2.2 324 = some (.iaload)) h1 rfl
set_option maxRecDepth 20000 in
theorem u217_333 {x0 x1 x2 x3 : Option Value} {i : Int32} {L : Nat} {xs : Nat → Int32} (h1 : M.1 ≤ 1000) : zk_R (some (L, xs)) d 217 333 [x0, x1, x2, x3] (.int i :: .ref (1000 : Nat) :: st) M P = (zk_inb i L = true ∧ zk_R (some (L, xs)) d 217 334 [x0, x1, x2, x3] (.int (xs i.toNatClampNeg) :: st) M P) := zr_ialdx um217 (rfl : zk_lk zm_217.2.2.2.2.2 333 = some (.iaload)) h1 rfl
set_option maxRecDepth 20000 in
theorem u217_347 {x0 x1 x2 x3 : Option Value} {i : Int32} {L : Nat} {xs : Nat → Int32} (h1 : M.1 ≤ 1000) : zk_R (some (L, xs)) d 217 347 [x0, x1, x2, x3] (.int i :: .ref (1000 : Nat) :: st) M P = (zk_inb i L = true ∧ zk_R (some (L, xs)) d 217 348 [x0, x1, x2, x3] (.int (xs i.toNatClampNeg) :: st) M P) := zr_ialdx um217 (rfl : zk_lk zm_217.2.2.2.2.2 347 = some (.iaload)) h1 rfl
set_option maxRecDepth 20000 in
theorem u217_352 {x0 x1 x2 x3 : Option Value} {i : Int32} {L : Nat} {xs : Nat → Int32} (h1 : M.1 ≤ 1000) : zk_R (some (L, xs)) d 217 352 [x0, x1, x2, x3] (.int i :: .ref (1000 : Nat) :: st) M P = (zk_inb i L = true ∧ zk_R (some (L, xs)) d 217 353 [x0, x1, x2, x3] (.int (xs i.toNatClampNeg) :: st) M P) := zr_ialdx um217 (rfl : zk_lk zm_217.2.2.2.2.2 352 = some (.iaload)) h1 rfl
set_option maxRecDepth 20000 in
theorem u217_357 {x0 x1 x2 x3 : Option Value} {i : Int32} {L : Nat} {xs : Nat → Int32} (h1 : M.1 ≤ 1000) : zk_R (some (L, xs)) d 217 357 [x0, x1, x2, x3] (.int i :: .ref (1000 : Nat) :: st) M P = (zk_inb i L = true ∧ zk_R (some (L, xs)) d 217 358 [x0, x1, x2, x3] (.int (xs i.toNatClampNeg) :: st) M P) := zr_ialdx um217 (rfl : zk_lk zm_217.2.2.2.2.2 357 = some (.iaload)) h1 rfl
set_option maxRecDepth 20000 in
theorem u217_366 {x0 x1 x2 x3 : Option Value} {i : Int32} {L : Nat} {xs : Nat → Int32} (h1 : M.1 ≤ 1000) : zk_R (some (L, xs)) d 217 366 [x0, x1, x2, x3] (.int i :: .ref (1000 : Nat) :: st) M P = (zk_inb i L = true ∧ zk_R (some (L, xs)) d 217 367 [x0, x1, x2, x3] (.int (xs i.toNatClampNeg) :: st) M P) := zr_ialdx um217 (rfl : zk_lk zm_217.2.2.2.2.2 366 = some (.iaload)) h1 rfl
set_option maxRecDepth 20000 in
theorem u217_371 {x0 x1 x2 x3 : Option Value} {i : Int32} {L : Nat} {xs : Nat → Int32} (h1 : M.1 ≤ 1000) : zk_R (some (L, xs)) d 217 371 [x0, x1, x2, x3] (.int i :: .ref (1000 : Nat) :: st) M P = (zk_inb i L = true ∧ zk_R (some (L, xs)) d 217 372 [x0, x1, x2, x3] (.int (xs i.toNatClampNeg) :: st) M P) := zr_ialdx um217 (rfl : zk_lk zm_217.2.2.2.2.2 371 = some (.iaload)) h1 rfl
set_option maxRecDepth 20000 in
theorem u217_376 {x0 x1 x2 x3 : Option Value} {i : Int32} {L : Nat} {xs : Nat → Int32} (h1 : M.1 ≤ 1000) : zk_R (some (L, xs)) d 217 376 [x0, x1, x2, x3] (.int i :: .ref (1000 : Nat) :: st) M P = (zk_inb i L = true ∧ zk_R (some (L, xs)) d 217 377 [x0, x1, x2, x3] (.int (xs i.toNatClampNeg) :: st) M P) := zr_ialdx um217 (rfl : zk_lk zm_217.2.2.2.2.2 376 = some (.iaload)) h1 rfl
set_option maxRecDepth 20000 in
theorem u217_390 {x0 x1 x2 x3 : Option Value} {i : Int32} {L : Nat} {xs : Nat → Int32} (h1 : M.1 ≤ 1000) : zk_R (some (L, xs)) d 217 390 [x0, x1, x2, x3] (.int i :: .ref (1000 : Nat) :: st) M P = (zk_inb i L = true ∧ zk_R (some (L, xs)) d 217 391 [x0, x1, x2, x3] (.int (xs i.toNatClampNeg) :: st) M P) := zr_ialdx um217 (rfl : zk_lk zm_217.2.2.2.2.2 390 = some (.iaload)) h1 rfl
set_option maxRecDepth 20000 in
theorem u217_395 {x0 x1 x2 x3 : Option Value} {i : Int32} {L : Nat} {xs : Nat → Int32} (h1 : M.1 ≤ 1000) : zk_R (some (L, xs)) d 217 395 [x0, x1, x2, x3] (.int i :: .ref (1000 : Nat) :: st) M P = (zk_inb i L = true ∧ zk_R (some (L, xs)) d 217 396 [x0, x1, x2, x3] (.int (xs i.toNatClampNeg) :: st) M P) := zr_ialdx um217 (rfl : zk_lk zm_217.2.2.2.2.2 395 = some (.iaload)) h1 rfl
set_option maxRecDepth 20000 in
theorem u217_404 {x0 x1 x2 x3 : Option Value} {i : Int32} {L : Nat} {xs : Nat → Int32} (h1 : M.1 ≤ 1000) : zk_R (some (L, xs)) d 217 404 [x0, x1, x2, x3] (.int i :: .ref (1000 : Nat) :: st) M P = (zk_inb i L = true ∧ zk_R (some (L, xs)) d 217 405 [x0, x1, x2, x3] (.int (xs i.toNatClampNeg) :: st) M P) := zr_ialdx um217 (rfl : zk_lk zm_217.2.2.2.2.2 404 = some (.iaload)) h1 rfl
set_option maxRecDepth 20000 in
theorem u217_409 {x0 x1 x2 x3 : Option Value} {i : Int32} {L : Nat} {xs : Nat → Int32} (h1 : M.1 ≤ 1000) : zk_R (some (L, xs)) d 217 409 [x0, x1, x2, x3] (.int i :: .ref (1000 : Nat) :: st) M P = (zk_inb i L = true ∧ zk_R (some (L, xs)) d 217 410 [x0, x1, x2, x3] (.int (xs i.toNatClampNeg) :: st) M P) := zr_ialdx um217 (rfl : zk_lk zm_217.2.2.2.2.2 409 = some (.iaload)) h1 rfl
set_option maxRecDepth 20000 in
theorem u217_436 {x0 x1 x2 x3 : Option Value} {i : Int32} {L : Nat} {xs : Nat → Int32} (h1 : M.1 ≤ 1000) : zk_R (some (L, xs)) d 217 436 [x0, x1, x2, x3] (.int i :: .ref (1000 : Nat) :: st) M P = (zk_inb i L = true ∧ zk_R (some (L, xs)) d 217 437 [x0, x1, x2, x3] (.int (xs i.toNatClampNeg) :: st) M P) := zr_ialdx um217 (rfl : zk_lk zm_217.2.2.2.2.2 436 = some (.iaload)) h1 rfl
set_option maxRecDepth 20000 in
theorem u217_441 {x0 x1 x2 x3 : Option Value} {i : Int32} {L : Nat} {xs : Nat → Int32} (h1 : M.1 ≤ 1000) : zk_R (some (L, xs)) d 217 441 [x0, x1, x2, x3] (.int i :: .ref (1000 : Nat) :: st) M P = (zk_inb i L = true ∧ zk_R (some (L, xs)) d 217 442 [x0, x1, x2, x3] (.int (xs i.toNatClampNeg) :: st) M P) := zr_ialdx um217 (rfl : zk_lk zm_217.2.2.2.2.2 441 = some (.iaload)) h1 rfl
set_option maxRecDepth 20000 in
theorem u217_450 {x0 x1 x2 x3 : Option Value} {i : Int32} {L : Nat} {xs : Nat → Int32} (h1 : M.1 ≤ 1000) : zk_R (some (L, xs)) d 217 450 [x0, x1, x2, x3] (.int i :: .ref (1000 : Nat) :: st) M P = (zk_inb i L = true ∧ zk_R (some (L, xs)) d 217 451 [x0, x1, x2, x3] (.int (xs i.toNatClampNeg) :: st) M P) := zr_ialdx um217 (rfl : zk_lk zm_217.2.2.2.2.2 450 = some (.iaload)) h1 rfl
set_option maxRecDepth 20000 in
theorem u217_455 {x0 x1 x2 x3 : Option Value} {i : Int32} {L : Nat} {xs : Nat → Int32} (h1 : M.1 ≤ 1000) : zk_R (some (L, xs)) d 217 455 [x0, x1, x2, x3] (.int i :: .ref (1000 : Nat) :: st) M P = (zk_inb i L = true ∧ zk_R (some (L, xs)) d 217 456 [x0, x1, x2, x3] (.int (xs i.toNatClampNeg) :: st) M P) := zr_ialdx um217 (rfl : zk_lk zm_217.2.2.2.2.2 455 = some (.iaload)) h1 rfl
set_option maxRecDepth 20000 in
theorem u217_469 {x0 x1 x2 x3 : Option Value} {i : Int32} {L : Nat} {xs : Nat → Int32} (h1 : M.1 ≤ 1000) : zk_R (some (L, xs)) d 217 469 [x0, x1, x2, x3] (.int i :: .ref (1000 : Nat) :: st) M P = (zk_inb i L = true ∧ zk_R (some (L, xs)) d 217 470 [x0, x1, x2, x3] (.int (xs i.toNatClampNeg) :: st) M P) := zr_ialdx um217 (rfl : zk_lk zm_217.2.2.2.2.2 469 = some (.iaload)) h1 rfl
set_option maxRecDepth 20000 in
theorem u217_474 {x0 x1 x2 x3 : Option Value} {i : Int32} {L : Nat} {xs : Nat → Int32} (h1 : M.1 ≤ 1000) : zk_R (some (L, xs)) d 217 474 [x0, x1, x2, x3] (.int i :: .ref (1000 : Nat) :: st) M P = (zk_inb i L = true ∧ zk_R (some (L, xs)) d 217 475 [x0, x1, x2, x3] (.int (xs i.toNatClampNeg) :: st) M P) := zr_ialdx um217 (rfl : zk_lk zm_217.2.2.2.2.2 474 = some (.iaload)) h1 rfl
set_option maxRecDepth 20000 in
theorem u217_483 {x0 x1 x2 x3 : Option Value} {i : Int32} {L : Nat} {xs : Nat → Int32} (h1 : M.1 ≤ 1000) : zk_R (some (L, xs)) d 217 483 [x0, x1, x2, x3] (.int i :: .ref (1000 : Nat) :: st) M P = (zk_inb i L = true ∧ zk_R (some (L, xs)) d 217 484 [x0, x1, x2, x3] (.int (xs i.toNatClampNeg) :: st) M P) := zr_ialdx um217 (rfl : zk_lk zm_217.2.2.2.2.2 483 = some (.iaload)) h1 rfl
set_option maxRecDepth 20000 in
theorem u217_488 {x0 x1 x2 x3 : Option Value} {i : Int32} {L : Nat} {xs : Nat → Int32} (h1 : M.1 ≤ 1000) : zk_R (some (L, xs)) d 217 488 [x0, x1, x2, x3] (.int i :: .ref (1000 : Nat) :: st) M P = (zk_inb i L = true ∧ zk_R (some (L, xs)) d 217 489 [x0, x1, x2, x3] (.int (xs i.toNatClampNeg) :: st) M P) := zr_ialdx um217 (rfl : zk_lk zm_217.2.2.2.2.2 488 = some (.iaload)) h1 rfl
set_option maxRecDepth 20000 in
theorem u217_502 {x0 x1 x2 x3 : Option Value} {i : Int32} {L : Nat} {xs : Nat → Int32} (h1 : M.1 ≤ 1000) : zk_R (some (L, xs)) d 217 502 [x0, x1, x2, x3] (.int i :: .ref (1000 : Nat) :: st) M P = (zk_inb i L = true ∧ zk_R (some (L, xs)) d 217 503 [x0, x1, x2, x3] (.int (xs i.toNatClampNeg) :: st) M P) := zr_ialdx um217 (rfl : zk_lk zm_217.2.2.2.2.2 502 = some (.iaload)) h1 rfl
set_option maxRecDepth 20000 in
theorem u217_507 {x0 x1 x2 x3 : Option Value} {i : Int32} {L : Nat} {xs : Nat → Int32} (h1 : M.1 ≤ 1000) : zk_R (some (L, xs)) d 217 507 [x0, x1, x2, x3] (.int i :: .ref (1000 : Nat) :: st) M P = (zk_inb i L = true ∧ zk_R (some (L, xs)) d 217 508 [x0, x1, x2, x3] (.int (xs i.toNatClampNeg) :: st) M P) := zr_ialdx um217 (rfl : zk_lk zm_217.2.2.2.2.2 507 = some (.iaload)) h1 rfl
set_option maxRecDepth 20000 in
theorem u217_516 {x0 x1 x2 x3 : Option Value} {i : Int32} {L : Nat} {xs : Nat → Int32} (h1 : M.1 ≤ 1000) : zk_R (some (L, xs)) d 217 516 [x0, x1, x2, x3] (.int i :: .ref (1000 : Nat) :: st) M P = (zk_inb i L = true ∧ zk_R (some (L, xs)) d 217 517 [x0, x1, x2, x3] (.int (xs i.toNatClampNeg) :: st) M P) := zr_ialdx um217 (rfl : zk_lk zm_217.2.2.2.2.2 516 = some (.iaload)) h1 rfl
set_option maxRecDepth 20000 in
theorem u217_521 {x0 x1 x2 x3 : Option Value} {i : Int32} {L : Nat} {xs : Nat → Int32} (h1 : M.1 ≤ 1000) : zk_R (some (L, xs)) d 217 521 [x0, x1, x2, x3] (.int i :: .ref (1000 : Nat) :: st) M P = (zk_inb i L = true ∧ zk_R (some (L, xs)) d 217 522 [x0, x1, x2, x3] (.int (xs i.toNatClampNeg) :: st) M P) := zr_ialdx um217 (rfl : zk_lk zm_217.2.2.2.2.2 521 = some (.iaload)) h1 rfl
set_option maxRecDepth 20000 in
theorem u217_561 {x0 x1 x2 x3 : Option Value} {i : Int32} {L : Nat} {xs : Nat → Int32} (h1 : M.1 ≤ 1000) : zk_R (some (L, xs)) d 217 561 [x0, x1, x2, x3] (.int i :: .ref (1000 : Nat) :: st) M P = (zk_inb i L = true ∧ zk_R (some (L, xs)) d 217 562 [x0, x1, x2, x3] (.int (xs i.toNatClampNeg) :: st) M P) := zr_ialdx um217 (rfl : zk_lk zm_217.2.2.2.2.2 561 = some (.iaload)) h1 rfl
set_option maxRecDepth 20000 in
theorem u217_566 {x0 x1 x2 x3 : Option Value} {i : Int32} {L : Nat} {xs : Nat → Int32} (h1 : M.1 ≤ 1000) : zk_R (some (L, xs)) d 217 566 [x0, x1, x2, x3] (.int i :: .ref (1000 : Nat) :: st) M P = (zk_inb i L = true ∧ zk_R (some (L, xs)) d 217 567 [x0, x1, x2, x3] (.int (xs i.toNatClampNeg) :: st) M P) := zr_ialdx um217 (rfl : zk_lk zm_217.2.2.2.2.2 566 = some (.iaload)) h1 rfl
set_option maxRecDepth 20000 in
theorem u217_575 {x0 x1 x2 x3 : Option Value} {i : Int32} {L : Nat} {xs : Nat → Int32} (h1 : M.1 ≤ 1000) : zk_R (some (L, xs)) d 217 575 [x0, x1, x2, x3] (.int i :: .ref (1000 : Nat) :: st) M P = (zk_inb i L = true ∧ zk_R (some (L, xs)) d 217 576 [x0, x1, x2, x3] (.int (xs i.toNatClampNeg) :: st) M P) := zr_ialdx um217 (rfl : zk_lk zm_217.2.2.2.2.2 575 = some (.iaload)) h1 rfl
set_option maxRecDepth 20000 in
theorem u217_580 {x0 x1 x2 x3 : Option Value} {i : Int32} {L : Nat} {xs : Nat → Int32} (h1 : M.1 ≤ 1000) : zk_R (some (L, xs)) d 217 580 [x0, x1, x2, x3] (.int i :: .ref (1000 : Nat) :: st) M P = (zk_inb i L = true ∧ zk_R (some (L, xs)) d 217 581 [x0, x1, x2, x3] (.int (xs i.toNatClampNeg) :: st) M P) := zr_ialdx um217 (rfl : zk_lk zm_217.2.2.2.2.2 580 = some (.iaload)) h1 rfl
set_option maxRecDepth 20000 in
theorem u217_594 {x0 x1 x2 x3 : Option Value} {i : Int32} {L : Nat} {xs : Nat → Int32} (h1 : M.1 ≤ 1000) : zk_R (some (L, xs)) d 217 594 [x0, x1, x2, x3] (.int i :: .ref (1000 : Nat) :: st) M P = (zk_inb i L = true ∧ zk_R (some (L, xs)) d 217 595 [x0, x1, x2, x3] (.int (xs i.toNatClampNeg) :: st) M P) := zr_ialdx um217 (rfl : zk_lk zm_217.2.2.2.2.2 594 = some (.iaload)) h1 rfl
set_option maxRecDepth 20000 in
theorem u217_603 {x0 x1 x2 x3 : Option Value} {i : Int32} {L : Nat} {xs : Nat → Int32} (h1 : M.1 ≤ 1000) : zk_R (some (L, xs)) d 217 603 [x0, x1, x2, x3] (.int i :: .ref (1000 : Nat) :: st) M P = (zk_inb i L = true ∧ zk_R (some (L, xs)) d 217 604 [x0, x1, x2, x3] (.int (xs i.toNatClampNeg) :: st) M P) := zr_ialdx um217 (rfl : zk_lk zm_217.2.2.2.2.2 603 = some (.iaload)) h1 rfl
set_option maxRecDepth 20000 in
theorem u217_617 {x0 x1 x2 x3 : Option Value} {i : Int32} {L : Nat} {xs : Nat → Int32} (h1 : M.1 ≤ 1000) : zk_R (some (L, xs)) d 217 617 [x0, x1, x2, x3] (.int i :: .ref (1000 : Nat) :: st) M P = (zk_inb i L = true ∧ zk_R (some (L, xs)) d 217 618 [x0, x1, x2, x3] (.int (xs i.toNatClampNeg) :: st) M P) := zr_ialdx um217 (rfl : zk_lk zm_217.2.2.2.2.2 617 = some (.iaload)) h1 rfl
set_option maxRecDepth 20000 in
theorem u217_622 {x0 x1 x2 x3 : Option Value} {i : Int32} {L : Nat} {xs : Nat → Int32} (h1 : M.1 ≤ 1000) : zk_R (some (L, xs)) d 217 622 [x0, x1, x2, x3] (.int i :: .ref (1000 : Nat) :: st) M P = (zk_inb i L = true ∧ zk_R (some (L, xs)) d 217 623 [x0, x1, x2, x3] (.int (xs i.toNatClampNeg) :: st) M P) := zr_ialdx um217 (rfl : zk_lk zm_217.2.2.2.2.2 622 = some (.iaload)) h1 rfl
set_option maxRecDepth 20000 in
theorem u217_631 {x0 x1 x2 x3 : Option Value} {i : Int32} {L : Nat} {xs : Nat → Int32} (h1 : M.1 ≤ 1000) : zk_R (some (L, xs)) d 217 631 [x0, x1, x2, x3] (.int i :: .ref (1000 : Nat) :: st) M P = (zk_inb i L = true ∧ zk_R (some (L, xs)) d 217 632 [x0, x1, x2, x3] (.int (xs i.toNatClampNeg) :: st) M P) := zr_ialdx um217 (rfl : zk_lk zm_217.2.2.2.2.2 631 = some (.iaload)) h1 rfl
set_option maxRecDepth 20000 in
theorem u217_636 {x0 x1 x2 x3 : Option Value} {i : Int32} {L : Nat} {xs : Nat → Int32} (h1 : M.1 ≤ 1000) : zk_R (some (L, xs)) d 217 636 [x0, x1, x2, x3] (.int i :: .ref (1000 : Nat) :: st) M P = (zk_inb i L = true ∧ zk_R (some (L, xs)) d 217 637 [x0, x1, x2, x3] (.int (xs i.toNatClampNeg) :: st) M P) := zr_ialdx um217 (rfl : zk_lk zm_217.2.2.2.2.2 636 = some (.iaload)) h1 rfl
set_option maxRecDepth 20000 in
theorem u217_650 {x0 x1 x2 x3 : Option Value} {i : Int32} {L : Nat} {xs : Nat → Int32} (h1 : M.1 ≤ 1000) : zk_R (some (L, xs)) d 217 650 [x0, x1, x2, x3] (.int i :: .ref (1000 : Nat) :: st) M P = (zk_inb i L = true ∧ zk_R (some (L, xs)) d 217 651 [x0, x1, x2, x3] (.int (xs i.toNatClampNeg) :: st) M P) := zr_ialdx um217 (rfl : zk_lk zm_217.2.2.2.2.2 650 = some (.iaload)) h1 rfl
set_option maxRecDepth 20000 in
theorem u217_659 {x0 x1 x2 x3 : Option Value} {i : Int32} {L : Nat} {xs : Nat → Int32} (h1 : M.1 ≤ 1000) : zk_R (some (L, xs)) d 217 659 [x0, x1, x2, x3] (.int i :: .ref (1000 : Nat) :: st) M P = (zk_inb i L = true ∧ zk_R (some (L, xs)) d 217 660 [x0, x1, x2, x3] (.int (xs i.toNatClampNeg) :: st) M P) := zr_ialdx um217 (rfl : zk_lk zm_217.2.2.2.2.2 659 = some (.iaload)) h1 rfl
set_option maxRecDepth 20000 in
theorem u217_673 {x0 x1 x2 x3 : Option Value} {i : Int32} {L : Nat} {xs : Nat → Int32} (h1 : M.1 ≤ 1000) : zk_R (some (L, xs)) d 217 673 [x0, x1, x2, x3] (.int i :: .ref (1000 : Nat) :: st) M P = (zk_inb i L = true ∧ zk_R (some (L, xs)) d 217 674 [x0, x1, x2, x3] (.int (xs i.toNatClampNeg) :: st) M P) := zr_ialdx um217 (rfl : zk_lk zm_217.2.2.2.2.2 673 = some (.iaload)) h1 rfl
set_option maxRecDepth 20000 in
theorem u217_682 {x0 x1 x2 x3 : Option Value} {i : Int32} {L : Nat} {xs : Nat → Int32} (h1 : M.1 ≤ 1000) : zk_R (some (L, xs)) d 217 682 [x0, x1, x2, x3] (.int i :: .ref (1000 : Nat) :: st) M P = (zk_inb i L = true ∧ zk_R (some (L, xs)) d 217 683 [x0, x1, x2, x3] (.int (xs i.toNatClampNeg) :: st) M P) := zr_ialdx um217 (rfl : zk_lk zm_217.2.2.2.2.2 682 = some (.iaload)) h1 rfl
set_option maxRecDepth 20000 in
theorem u217_696 {x0 x1 x2 x3 : Option Value} {i : Int32} {L : Nat} {xs : Nat → Int32} (h1 : M.1 ≤ 1000) : zk_R (some (L, xs)) d 217 696 [x0, x1, x2, x3] (.int i :: .ref (1000 : Nat) :: st) M P = (zk_inb i L = true ∧ zk_R (some (L, xs)) d 217 697 [x0, x1, x2, x3] (.int (xs i.toNatClampNeg) :: st) M P) := zr_ialdx um217 (rfl : zk_lk zm_217.2.2.2.2.2 696 = some (.iaload)) h1 rfl
set_option maxRecDepth 20000 in
theorem u217_701 {x0 x1 x2 x3 : Option Value} {i : Int32} {L : Nat} {xs : Nat → Int32} (h1 : M.1 ≤ 1000) : zk_R (some (L, xs)) d 217 701 [x0, x1, x2, x3] (.int i :: .ref (1000 : Nat) :: st) M P = (zk_inb i L = true ∧ zk_R (some (L, xs)) d 217 702 [x0, x1, x2, x3] (.int (xs i.toNatClampNeg) :: st) M P) := zr_ialdx um217 (rfl : zk_lk zm_217.2.2.2.2.2 701 = some (.iaload)) h1 rfl
set_option maxRecDepth 20000 in
theorem u217_710 {x0 x1 x2 x3 : Option Value} {i : Int32} {L : Nat} {xs : Nat → Int32} (h1 : M.1 ≤ 1000) : zk_R (some (L, xs)) d 217 710 [x0, x1, x2, x3] (.int i :: .ref (1000 : Nat) :: st) M P = (zk_inb i L = true ∧ zk_R (some (L, xs)) d 217 711 [x0, x1, x2, x3] (.int (xs i.toNatClampNeg) :: st) M P) := zr_ialdx um217 (rfl : zk_lk zm_217.2.2.2.2.2 710 = some (.iaload)) h1 rfl
set_option maxRecDepth 20000 in
theorem u217_715 {x0 x1 x2 x3 : Option Value} {i : Int32} {L : Nat} {xs : Nat → Int32} (h1 : M.1 ≤ 1000) : zk_R (some (L, xs)) d 217 715 [x0, x1, x2, x3] (.int i :: .ref (1000 : Nat) :: st) M P = (zk_inb i L = true ∧ zk_R (some (L, xs)) d 217 716 [x0, x1, x2, x3] (.int (xs i.toNatClampNeg) :: st) M P) := zr_ialdx um217 (rfl : zk_lk zm_217.2.2.2.2.2 715 = some (.iaload)) h1 rfl
set_option maxRecDepth 20000 in
theorem u217_729 {x0 x1 x2 x3 : Option Value} {i : Int32} {L : Nat} {xs : Nat → Int32} (h1 : M.1 ≤ 1000) : zk_R (some (L, xs)) d 217 729 [x0, x1, x2, x3] (.int i :: .ref (1000 : Nat) :: st) M P = (zk_inb i L = true ∧ zk_R (some (L, xs)) d 217 730 [x0, x1, x2, x3] (.int (xs i.toNatClampNeg) :: st) M P) := zr_ialdx um217 (rfl : zk_lk zm_217.2.2.2.2.2 729 = some (.iaload)) h1 rfl
set_option maxRecDepth 20000 in
theorem u217_738 {x0 x1 x2 x3 : Option Value} {i : Int32} {L : Nat} {xs : Nat → Int32} (h1 : M.1 ≤ 1000) : zk_R (some (L, xs)) d 217 738 [x0, x1, x2, x3] (.int i :: .ref (1000 : Nat) :: st) M P = (zk_inb i L = true ∧ zk_R (some (L, xs)) d 217 739 [x0, x1, x2, x3] (.int (xs i.toNatClampNeg) :: st) M P) := zr_ialdx um217 (rfl : zk_lk zm_217.2.2.2.2.2 738 = some (.iaload)) h1 rfl
set_option maxRecDepth 20000 in
theorem u217_778 {x0 x1 x2 x3 : Option Value} {i : Int32} {L : Nat} {xs : Nat → Int32} (h1 : M.1 ≤ 1000) : zk_R (some (L, xs)) d 217 778 [x0, x1, x2, x3] (.int i :: .ref (1000 : Nat) :: st) M P = (zk_inb i L = true ∧ zk_R (some (L, xs)) d 217 779 [x0, x1, x2, x3] (.int (xs i.toNatClampNeg) :: st) M P) := zr_ialdx um217 (rfl : zk_lk zm_217.2.2.2.2.2 778 = some (.iaload)) h1 rfl
set_option maxRecDepth 20000 in
theorem u217_783 {x0 x1 x2 x3 : Option Value} {i : Int32} {L : Nat} {xs : Nat → Int32} (h1 : M.1 ≤ 1000) : zk_R (some (L, xs)) d 217 783 [x0, x1, x2, x3] (.int i :: .ref (1000 : Nat) :: st) M P = (zk_inb i L = true ∧ zk_R (some (L, xs)) d 217 784 [x0, x1, x2, x3] (.int (xs i.toNatClampNeg) :: st) M P) := zr_ialdx um217 (rfl : zk_lk zm_217.2.2.2.2.2 783 = some (.iaload)) h1 rfl
set_option maxRecDepth 20000 in
theorem u217_792 {x0 x1 x2 x3 : Option Value} {i : Int32} {L : Nat} {xs : Nat → Int32} (h1 : M.1 ≤ 1000) : zk_R (some (L, xs)) d 217 792 [x0, x1, x2, x3] (.int i :: .ref (1000 : Nat) :: st) M P = (zk_inb i L = true ∧ zk_R (some (L, xs)) d 217 793 [x0, x1, x2, x3] (.int (xs i.toNatClampNeg) :: st) M P) := zr_ialdx um217 (rfl : zk_lk zm_217.2.2.2.2.2 792 = some (.iaload)) h1 rfl
set_option maxRecDepth 20000 in
theorem u217_797 {x0 x1 x2 x3 : Option Value} {i : Int32} {L : Nat} {xs : Nat → Int32} (h1 : M.1 ≤ 1000) : zk_R (some (L, xs)) d 217 797 [x0, x1, x2, x3] (.int i :: .ref (1000 : Nat) :: st) M P = (zk_inb i L = true ∧ zk_R (some (L, xs)) d 217 798 [x0, x1, x2, x3] (.int (xs i.toNatClampNeg) :: st) M P) := zr_ialdx um217 (rfl : zk_lk zm_217.2.2.2.2.2 797 = some (.iaload)) h1 rfl
set_option maxRecDepth 20000 in
theorem u217_811 {x0 x1 x2 x3 : Option Value} {i : Int32} {L : Nat} {xs : Nat → Int32} (h1 : M.1 ≤ 1000) : zk_R (some (L, xs)) d 217 811 [x0, x1, x2, x3] (.int i :: .ref (1000 : Nat) :: st) M P = (zk_inb i L = true ∧ zk_R (some (L, xs)) d 217 812 [x0, x1, x2, x3] (.int (xs i.toNatClampNeg) :: st) M P) := zr_ialdx um217 (rfl : zk_lk zm_217.2.2.2.2.2 811 = some (.iaload)) h1 rfl
set_option maxRecDepth 20000 in
theorem u217_820 {x0 x1 x2 x3 : Option Value} {i : Int32} {L : Nat} {xs : Nat → Int32} (h1 : M.1 ≤ 1000) : zk_R (some (L, xs)) d 217 820 [x0, x1, x2, x3] (.int i :: .ref (1000 : Nat) :: st) M P = (zk_inb i L = true ∧ zk_R (some (L, xs)) d 217 821 [x0, x1, x2, x3] (.int (xs i.toNatClampNeg) :: st) M P) := zr_ialdx um217 (rfl : zk_lk zm_217.2.2.2.2.2 820 = some (.iaload)) h1 rfl
set_option maxRecDepth 20000 in
theorem u217_834 {x0 x1 x2 x3 : Option Value} {i : Int32} {L : Nat} {xs : Nat → Int32} (h1 : M.1 ≤ 1000) : zk_R (some (L, xs)) d 217 834 [x0, x1, x2, x3] (.int i :: .ref (1000 : Nat) :: st) M P = (zk_inb i L = true ∧ zk_R (some (L, xs)) d 217 835 [x0, x1, x2, x3] (.int (xs i.toNatClampNeg) :: st) M P) := zr_ialdx um217 (rfl : zk_lk zm_217.2.2.2.2.2 834 = some (.iaload)) h1 rfl
set_option maxRecDepth 20000 in
theorem u217_839 {x0 x1 x2 x3 : Option Value} {i : Int32} {L : Nat} {xs : Nat → Int32} (h1 : M.1 ≤ 1000) : zk_R (some (L, xs)) d 217 839 [x0, x1, x2, x3] (.int i :: .ref (1000 : Nat) :: st) M P = (zk_inb i L = true ∧ zk_R (some (L, xs)) d 217 840 [x0, x1, x2, x3] (.int (xs i.toNatClampNeg) :: st) M P) := zr_ialdx um217 (rfl : zk_lk zm_217.2.2.2.2.2 839 = some (.iaload)) h1 rfl
set_option maxRecDepth 20000 in
theorem u217_848 {x0 x1 x2 x3 : Option Value} {i : Int32} {L : Nat} {xs : Nat → Int32} (h1 : M.1 ≤ 1000) : zk_R (some (L, xs)) d 217 848 [x0, x1, x2, x3] (.int i :: .ref (1000 : Nat) :: st) M P = (zk_inb i L = true ∧ zk_R (some (L, xs)) d 217 849 [x0, x1, x2, x3] (.int (xs i.toNatClampNeg) :: st) M P) := zr_ialdx um217 (rfl : zk_lk zm_217.2.2.2.2.2 848 = some (.iaload)) h1 rfl
set_option maxRecDepth 20000 in
theorem u217_853 {x0 x1 x2 x3 : Option Value} {i : Int32} {L : Nat} {xs : Nat → Int32} (h1 : M.1 ≤ 1000) : zk_R (some (L, xs)) d 217 853 [x0, x1, x2, x3] (.int i :: .ref (1000 : Nat) :: st) M P = (zk_inb i L = true ∧ zk_R (some (L, xs)) d 217 854 [x0, x1, x2, x3] (.int (xs i.toNatClampNeg) :: st) M P) := zr_ialdx um217 (rfl : zk_lk zm_217.2.2.2.2.2 853 = some (.iaload)) h1 rfl
set_option maxRecDepth 20000 in
theorem u217_867 {x0 x1 x2 x3 : Option Value} {i : Int32} {L : Nat} {xs : Nat → Int32} (h1 : M.1 ≤ 1000) : zk_R (some (L, xs)) d 217 867 [x0, x1, x2, x3] (.int i :: .ref (1000 : Nat) :: st) M P = (zk_inb i L = true ∧ zk_R (some (L, xs)) d 217 868 [x0, x1, x2, x3] (.int (xs i.toNatClampNeg) :: st) M P) := zr_ialdx um217 (rfl : zk_lk zm_217.2.2.2.2.2 867 = some (.iaload)) h1 rfl
set_option maxRecDepth 20000 in
theorem u217_876 {x0 x1 x2 x3 : Option Value} {i : Int32} {L : Nat} {xs : Nat → Int32} (h1 : M.1 ≤ 1000) : zk_R (some (L, xs)) d 217 876 [x0, x1, x2, x3] (.int i :: .ref (1000 : Nat) :: st) M P = (zk_inb i L = true ∧ zk_R (some (L, xs)) d 217 877 [x0, x1, x2, x3] (.int (xs i.toNatClampNeg) :: st) M P) := zr_ialdx um217 (rfl : zk_lk zm_217.2.2.2.2.2 876 = some (.iaload)) h1 rfl
set_option maxRecDepth 20000 in
theorem u217_890 {x0 x1 x2 x3 : Option Value} {i : Int32} {L : Nat} {xs : Nat → Int32} (h1 : M.1 ≤ 1000) : zk_R (some (L, xs)) d 217 890 [x0, x1, x2, x3] (.int i :: .ref (1000 : Nat) :: st) M P = (zk_inb i L = true ∧ zk_R (some (L, xs)) d 217 891 [x0, x1, x2, x3] (.int (xs i.toNatClampNeg) :: st) M P) := zr_ialdx um217 (rfl : zk_lk zm_217.2.2.2.2.2 890 = some (.iaload)) h1 rfl
set_option maxRecDepth 20000 in
theorem u217_899 {x0 x1 x2 x3 : Option Value} {i : Int32} {L : Nat} {xs : Nat → Int32} (h1 : M.1 ≤ 1000) : zk_R (some (L, xs)) d 217 899 [x0, x1, x2, x3] (.int i :: .ref (1000 : Nat) :: st) M P = (zk_inb i L = true ∧ zk_R (some (L, xs)) d 217 900 [x0, x1, x2, x3] (.int (xs i.toNatClampNeg) :: st) M P) := zr_ialdx um217 (rfl : zk_lk zm_217.2.2.2.2.2 899 = some (.iaload)) h1 rfl
set_option maxRecDepth 20000 in
theorem u217_913 {x0 x1 x2 x3 : Option Value} {i : Int32} {L : Nat} {xs : Nat → Int32} (h1 : M.1 ≤ 1000) : zk_R (some (L, xs)) d 217 913 [x0, x1, x2, x3] (.int i :: .ref (1000 : Nat) :: st) M P = (zk_inb i L = true ∧ zk_R (some (L, xs)) d 217 914 [x0, x1, x2, x3] (.int (xs i.toNatClampNeg) :: st) M P) := zr_ialdx um217 (rfl : zk_lk zm_217.2.2.2.2.2 913 = some (.iaload)) h1 rfl
set_option maxRecDepth 20000 in
theorem u217_918 {x0 x1 x2 x3 : Option Value} {i : Int32} {L : Nat} {xs : Nat → Int32} (h1 : M.1 ≤ 1000) : zk_R (some (L, xs)) d 217 918 [x0, x1, x2, x3] (.int i :: .ref (1000 : Nat) :: st) M P = (zk_inb i L = true ∧ zk_R (some (L, xs)) d 217 919 [x0, x1, x2, x3] (.int (xs i.toNatClampNeg) :: st) M P) := zr_ialdx um217 (rfl : zk_lk zm_217.2.2.2.2.2 918 = some (.iaload)) h1 rfl
set_option maxRecDepth 20000 in
theorem u217_927 {x0 x1 x2 x3 : Option Value} {i : Int32} {L : Nat} {xs : Nat → Int32} (h1 : M.1 ≤ 1000) : zk_R (some (L, xs)) d 217 927 [x0, x1, x2, x3] (.int i :: .ref (1000 : Nat) :: st) M P = (zk_inb i L = true ∧ zk_R (some (L, xs)) d 217 928 [x0, x1, x2, x3] (.int (xs i.toNatClampNeg) :: st) M P) := zr_ialdx um217 (rfl : zk_lk zm_217.2.2.2.2.2 927 = some (.iaload)) h1 rfl
set_option maxRecDepth 20000 in
theorem u217_932 {x0 x1 x2 x3 : Option Value} {i : Int32} {L : Nat} {xs : Nat → Int32} (h1 : M.1 ≤ 1000) : zk_R (some (L, xs)) d 217 932 [x0, x1, x2, x3] (.int i :: .ref (1000 : Nat) :: st) M P = (zk_inb i L = true ∧ zk_R (some (L, xs)) d 217 933 [x0, x1, x2, x3] (.int (xs i.toNatClampNeg) :: st) M P) := zr_ialdx um217 (rfl : zk_lk zm_217.2.2.2.2.2 932 = some (.iaload)) h1 rfl
set_option maxRecDepth 20000 in
theorem u217_947 {x0 x1 x2 x3 : Option Value} {i : Int32} {L : Nat} {xs : Nat → Int32} (h1 : M.1 ≤ 1000) : zk_R (some (L, xs)) d 217 947 [x0, x1, x2, x3] (.int i :: .ref (1000 : Nat) :: st) M P = (zk_inb i L = true ∧ zk_R (some (L, xs)) d 217 948 [x0, x1, x2, x3] (.int (xs i.toNatClampNeg) :: st) M P) := zr_ialdx um217 (rfl : zk_lk zm_217.2.2.2.2.2 947 = some (.iaload)) h1 rfl
set_option maxRecDepth 20000 in
theorem u217_956 {x0 x1 x2 x3 : Option Value} {i : Int32} {L : Nat} {xs : Nat → Int32} (h1 : M.1 ≤ 1000) : zk_R (some (L, xs)) d 217 956 [x0, x1, x2, x3] (.int i :: .ref (1000 : Nat) :: st) M P = (zk_inb i L = true ∧ zk_R (some (L, xs)) d 217 957 [x0, x1, x2, x3] (.int (xs i.toNatClampNeg) :: st) M P) := zr_ialdx um217 (rfl : zk_lk zm_217.2.2.2.2.2 956 = some (.iaload)) h1 rfl
set_option maxRecDepth 20000 in
theorem u217_970 {x0 x1 x2 x3 : Option Value} {i : Int32} {L : Nat} {xs : Nat → Int32} (h1 : M.1 ≤ 1000) : zk_R (some (L, xs)) d 217 970 [x0, x1, x2, x3] (.int i :: .ref (1000 : Nat) :: st) M P = (zk_inb i L = true ∧ zk_R (some (L, xs)) d 217 971 [x0, x1, x2, x3] (.int (xs i.toNatClampNeg) :: st) M P) := zr_ialdx um217 (rfl : zk_lk zm_217.2.2.2.2.2 970 = some (.iaload)) h1 rfl
set_option maxRecDepth 20000 in
theorem u217_975 {x0 x1 x2 x3 : Option Value} {i : Int32} {L : Nat} {xs : Nat → Int32} (h1 : M.1 ≤ 1000) : zk_R (some (L, xs)) d 217 975 [x0, x1, x2, x3] (.int i :: .ref (1000 : Nat) :: st) M P = (zk_inb i L = true ∧ zk_R (some (L, xs)) d 217 976 [x0, x1, x2, x3] (.int (xs i.toNatClampNeg) :: st) M P) := zr_ialdx um217 (rfl : zk_lk zm_217.2.2.2.2.2 975 = some (.iaload)) h1 rfl
set_option maxRecDepth 20000 in
theorem u217_980 {x0 x1 x2 x3 : Option Value} {i : Int32} {L : Nat} {xs : Nat → Int32} (h1 : M.1 ≤ 1000) : zk_R (some (L, xs)) d 217 980 [x0, x1, x2, x3] (.int i :: .ref (1000 : Nat) :: st) M P = (zk_inb i L = true ∧ zk_R (some (L, xs)) d 217 981 [x0, x1, x2, x3] (.int (xs i.toNatClampNeg) :: st) M P) := zr_ialdx um217 (rfl : zk_lk zm_217.2.2.2.2.2 980 = some (.iaload)) h1 rfl
set_option maxRecDepth 20000 in
theorem u217_989 {x0 x1 x2 x3 : Option Value} {i : Int32} {L : Nat} {xs : Nat → Int32} (h1 : M.1 ≤ 1000) : zk_R (some (L, xs)) d 217 989 [x0, x1, x2, x3] (.int i :: .ref (1000 : Nat) :: st) M P = (zk_inb i L = true ∧ zk_R (some (L, xs)) d 217 990 [x0, x1, x2, x3] (.int (xs i.toNatClampNeg) :: st) M P) := zr_ialdx um217 (rfl : zk_lk zm_217.2.2.2.2.2 989 = some (.iaload)) h1 rfl
set_option maxRecDepth 20000 in
theorem u217_994 {x0 x1 x2 x3 : Option Value} {i : Int32} {L : Nat} {xs : Nat → Int32} (h1 : M.1 ≤ 1000) : zk_R (some (L, xs)) d 217 994 [x0, x1, x2, x3] (.int i :: .ref (1000 : Nat) :: st) M P = (zk_inb i L = true ∧ zk_R (some (L, xs)) d 217 995 [x0, x1, x2, x3] (.int (xs i.toNatClampNeg) :: st) M P) := zr_ialdx um217 (rfl : zk_lk zm_217.2.2.2.2.2 994 = some (.iaload)) h1 rfl
set_option maxRecDepth 20000 in
theorem u217_999 {x0 x1 x2 x3 : Option Value} {i : Int32} {L : Nat} {xs : Nat → Int32} (h1 : M.1 ≤ 1000) : zk_R (some (L, xs)) d 217 999 [x0, x1, x2, x3] (.int i :: .ref (1000 : Nat) :: st) M P = (zk_inb i L = true ∧ zk_R (some (L, xs)) d 217 1000 [x0, x1, x2, x3] (.int (xs i.toNatClampNeg) :: st) M P) := zr_ialdx um217 (rfl : zk_lk zm_217.2.2.2.2.2 999 = some (.iaload)) h1 rfl
set_option maxRecDepth 20000 in
theorem u217_1013 {x0 x1 x2 x3 : Option Value} {i : Int32} {L : Nat} {xs : Nat → Int32} (h1 : M.1 ≤ 1000) : zk_R (some (L, xs)) d 217 1013 [x0, x1, x2, x3] (.int i :: .ref (1000 : Nat) :: st) M P = (zk_inb i L = true ∧ zk_R (some (L, xs)) d 217 1014 [x0, x1, x2, x3] (.int (xs i.toNatClampNeg) :: st) M P) := zr_ialdx um217 (rfl : zk_lk zm_217.2.2.2.2.2 1013 = some (.iaload)) h1 rfl
set_option maxRecDepth 20000 in
theorem u217_1018 {x0 x1 x2 x3 : Option Value} {i : Int32} {L : Nat} {xs : Nat → Int32} (h1 : M.1 ≤ 1000) : zk_R (some (L, xs)) d 217 1018 [x0, x1, x2, x3] (.int i :: .ref (1000 : Nat) :: st) M P = (zk_inb i L = true ∧ zk_R (some (L, xs)) d 217 1019 [x0, x1, x2, x3] (.int (xs i.toNatClampNeg) :: st) M P) := zr_ialdx um217 (rfl : zk_lk zm_217.2.2.2.2.2 1018 = some (.iaload)) h1 rfl
set_option maxRecDepth 20000 in
theorem u217_1027 {x0 x1 x2 x3 : Option Value} {i : Int32} {L : Nat} {xs : Nat → Int32} (h1 : M.1 ≤ 1000) : zk_R (some (L, xs)) d 217 1027 [x0, x1, x2, x3] (.int i :: .ref (1000 : Nat) :: st) M P = (zk_inb i L = true ∧ zk_R (some (L, xs)) d 217 1028 [x0, x1, x2, x3] (.int (xs i.toNatClampNeg) :: st) M P) := zr_ialdx um217 (rfl : zk_lk zm_217.2.2.2.2.2 1027 = some (.iaload)) h1 rfl
set_option maxRecDepth 20000 in
theorem u217_1032 {x0 x1 x2 x3 : Option Value} {i : Int32} {L : Nat} {xs : Nat → Int32} (h1 : M.1 ≤ 1000) : zk_R (some (L, xs)) d 217 1032 [x0, x1, x2, x3] (.int i :: .ref (1000 : Nat) :: st) M P = (zk_inb i L = true ∧ zk_R (some (L, xs)) d 217 1033 [x0, x1, x2, x3] (.int (xs i.toNatClampNeg) :: st) M P) := zr_ialdx um217 (rfl : zk_lk zm_217.2.2.2.2.2 1032 = some (.iaload)) h1 rfl
set_option maxRecDepth 20000 in
theorem u217_1046 {x0 x1 x2 x3 : Option Value} {i : Int32} {L : Nat} {xs : Nat → Int32} (h1 : M.1 ≤ 1000) : zk_R (some (L, xs)) d 217 1046 [x0, x1, x2, x3] (.int i :: .ref (1000 : Nat) :: st) M P = (zk_inb i L = true ∧ zk_R (some (L, xs)) d 217 1047 [x0, x1, x2, x3] (.int (xs i.toNatClampNeg) :: st) M P) := zr_ialdx um217 (rfl : zk_lk zm_217.2.2.2.2.2 1046 = some (.iaload)) h1 rfl
set_option maxRecDepth 20000 in
theorem u217_1051 {x0 x1 x2 x3 : Option Value} {i : Int32} {L : Nat} {xs : Nat → Int32} (h1 : M.1 ≤ 1000) : zk_R (some (L, xs)) d 217 1051 [x0, x1, x2, x3] (.int i :: .ref (1000 : Nat) :: st) M P = (zk_inb i L = true ∧ zk_R (some (L, xs)) d 217 1052 [x0, x1, x2, x3] (.int (xs i.toNatClampNeg) :: st) M P) := zr_ialdx um217 (rfl : zk_lk zm_217.2.2.2.2.2 1051 = some (.iaload)) h1 rfl
set_option maxRecDepth 20000 in
theorem u217_1060 {x0 x1 x2 x3 : Option Value} {i : Int32} {L : Nat} {xs : Nat → Int32} (h1 : M.1 ≤ 1000) : zk_R (some (L, xs)) d 217 1060 [x0, x1, x2, x3] (.int i :: .ref (1000 : Nat) :: st) M P = (zk_inb i L = true ∧ zk_R (some (L, xs)) d 217 1061 [x0, x1, x2, x3] (.int (xs i.toNatClampNeg) :: st) M P) := zr_ialdx um217 (rfl : zk_lk zm_217.2.2.2.2.2 1060 = some (.iaload)) h1 rfl
set_option maxRecDepth 20000 in
theorem u217_1065 {x0 x1 x2 x3 : Option Value} {i : Int32} {L : Nat} {xs : Nat → Int32} (h1 : M.1 ≤ 1000) : zk_R (some (L, xs)) d 217 1065 [x0, x1, x2, x3] (.int i :: .ref (1000 : Nat) :: st) M P = (zk_inb i L = true ∧ zk_R (some (L, xs)) d 217 1066 [x0, x1, x2, x3] (.int (xs i.toNatClampNeg) :: st) M P) := zr_ialdx um217 (rfl : zk_lk zm_217.2.2.2.2.2 1065 = some (.iaload)) h1 rfl
set_option maxRecDepth 20000 in
theorem u217_1079 {x0 x1 x2 x3 : Option Value} {i : Int32} {L : Nat} {xs : Nat → Int32} (h1 : M.1 ≤ 1000) : zk_R (some (L, xs)) d 217 1079 [x0, x1, x2, x3] (.int i :: .ref (1000 : Nat) :: st) M P = (zk_inb i L = true ∧ zk_R (some (L, xs)) d 217 1080 [x0, x1, x2, x3] (.int (xs i.toNatClampNeg) :: st) M P) := zr_ialdx um217 (rfl : zk_lk zm_217.2.2.2.2.2 1079 = some (.iaload)) h1 rfl
set_option maxRecDepth 20000 in
theorem u217_1088 {x0 x1 x2 x3 : Option Value} {i : Int32} {L : Nat} {xs : Nat → Int32} (h1 : M.1 ≤ 1000) : zk_R (some (L, xs)) d 217 1088 [x0, x1, x2, x3] (.int i :: .ref (1000 : Nat) :: st) M P = (zk_inb i L = true ∧ zk_R (some (L, xs)) d 217 1089 [x0, x1, x2, x3] (.int (xs i.toNatClampNeg) :: st) M P) := zr_ialdx um217 (rfl : zk_lk zm_217.2.2.2.2.2 1088 = some (.iaload)) h1 rfl
set_option maxRecDepth 20000 in
theorem u217_1102 {x0 x1 x2 x3 : Option Value} {i : Int32} {L : Nat} {xs : Nat → Int32} (h1 : M.1 ≤ 1000) : zk_R (some (L, xs)) d 217 1102 [x0, x1, x2, x3] (.int i :: .ref (1000 : Nat) :: st) M P = (zk_inb i L = true ∧ zk_R (some (L, xs)) d 217 1103 [x0, x1, x2, x3] (.int (xs i.toNatClampNeg) :: st) M P) := zr_ialdx um217 (rfl : zk_lk zm_217.2.2.2.2.2 1102 = some (.iaload)) h1 rfl
set_option maxRecDepth 20000 in
theorem u217_1107 {x0 x1 x2 x3 : Option Value} {i : Int32} {L : Nat} {xs : Nat → Int32} (h1 : M.1 ≤ 1000) : zk_R (some (L, xs)) d 217 1107 [x0, x1, x2, x3] (.int i :: .ref (1000 : Nat) :: st) M P = (zk_inb i L = true ∧ zk_R (some (L, xs)) d 217 1108 [x0, x1, x2, x3] (.int (xs i.toNatClampNeg) :: st) M P) := zr_ialdx um217 (rfl : zk_lk zm_217.2.2.2.2.2 1107 = some (.iaload)) h1 rfl
set_option maxRecDepth 20000 in
theorem u217_1112 {x0 x1 x2 x3 : Option Value} {i : Int32} {L : Nat} {xs : Nat → Int32} (h1 : M.1 ≤ 1000) : zk_R (some (L, xs)) d 217 1112 [x0, x1, x2, x3] (.int i :: .ref (1000 : Nat) :: st) M P = (zk_inb i L = true ∧ zk_R (some (L, xs)) d 217 1113 [x0, x1, x2, x3] (.int (xs i.toNatClampNeg) :: st) M P) := zr_ialdx um217 (rfl : zk_lk zm_217.2.2.2.2.2 1112 = some (.iaload)) h1 rfl
set_option maxRecDepth 20000 in
theorem u217_1117 {x0 x1 x2 x3 : Option Value} {i : Int32} {L : Nat} {xs : Nat → Int32} (h1 : M.1 ≤ 1000) : zk_R (some (L, xs)) d 217 1117 [x0, x1, x2, x3] (.int i :: .ref (1000 : Nat) :: st) M P = (zk_inb i L = true ∧ zk_R (some (L, xs)) d 217 1118 [x0, x1, x2, x3] (.int (xs i.toNatClampNeg) :: st) M P) := zr_ialdx um217 (rfl : zk_lk zm_217.2.2.2.2.2 1117 = some (.iaload)) h1 rfl
set_option maxRecDepth 20000 in
theorem u217_1126 {x0 x1 x2 x3 : Option Value} {i : Int32} {L : Nat} {xs : Nat → Int32} (h1 : M.1 ≤ 1000) : zk_R (some (L, xs)) d 217 1126 [x0, x1, x2, x3] (.int i :: .ref (1000 : Nat) :: st) M P = (zk_inb i L = true ∧ zk_R (some (L, xs)) d 217 1127 [x0, x1, x2, x3] (.int (xs i.toNatClampNeg) :: st) M P) := zr_ialdx um217 (rfl : zk_lk zm_217.2.2.2.2.2 1126 = some (.iaload)) h1 rfl
set_option maxRecDepth 20000 in
theorem u217_1131 {x0 x1 x2 x3 : Option Value} {i : Int32} {L : Nat} {xs : Nat → Int32} (h1 : M.1 ≤ 1000) : zk_R (some (L, xs)) d 217 1131 [x0, x1, x2, x3] (.int i :: .ref (1000 : Nat) :: st) M P = (zk_inb i L = true ∧ zk_R (some (L, xs)) d 217 1132 [x0, x1, x2, x3] (.int (xs i.toNatClampNeg) :: st) M P) := zr_ialdx um217 (rfl : zk_lk zm_217.2.2.2.2.2 1131 = some (.iaload)) h1 rfl
set_option maxRecDepth 20000 in
theorem u217_1136 {x0 x1 x2 x3 : Option Value} {i : Int32} {L : Nat} {xs : Nat → Int32} (h1 : M.1 ≤ 1000) : zk_R (some (L, xs)) d 217 1136 [x0, x1, x2, x3] (.int i :: .ref (1000 : Nat) :: st) M P = (zk_inb i L = true ∧ zk_R (some (L, xs)) d 217 1137 [x0, x1, x2, x3] (.int (xs i.toNatClampNeg) :: st) M P) := zr_ialdx um217 (rfl : zk_lk zm_217.2.2.2.2.2 1136 = some (.iaload)) h1 rfl
set_option maxRecDepth 20000 in
theorem u217_1141 {x0 x1 x2 x3 : Option Value} {i : Int32} {L : Nat} {xs : Nat → Int32} (h1 : M.1 ≤ 1000) : zk_R (some (L, xs)) d 217 1141 [x0, x1, x2, x3] (.int i :: .ref (1000 : Nat) :: st) M P = (zk_inb i L = true ∧ zk_R (some (L, xs)) d 217 1142 [x0, x1, x2, x3] (.int (xs i.toNatClampNeg) :: st) M P) := zr_ialdx um217 (rfl : zk_lk zm_217.2.2.2.2.2 1141 = some (.iaload)) h1 rfl
set_option maxRecDepth 20000 in
theorem u217_1182 {x0 x1 x2 x3 : Option Value} {i : Int32} {L : Nat} {xs : Nat → Int32} (h1 : M.1 ≤ 1000) : zk_R (some (L, xs)) d 217 1182 [x0, x1, x2, x3] (.int i :: .ref (1000 : Nat) :: st) M P = (zk_inb i L = true ∧ zk_R (some (L, xs)) d 217 1183 [x0, x1, x2, x3] (.int (xs i.toNatClampNeg) :: st) M P) := zr_ialdx um217 (rfl : zk_lk zm_217.2.2.2.2.2 1182 = some (.iaload)) h1 rfl
set_option maxRecDepth 20000 in
theorem u217_1187 {x0 x1 x2 x3 : Option Value} {i : Int32} {L : Nat} {xs : Nat → Int32} (h1 : M.1 ≤ 1000) : zk_R (some (L, xs)) d 217 1187 [x0, x1, x2, x3] (.int i :: .ref (1000 : Nat) :: st) M P = (zk_inb i L = true ∧ zk_R (some (L, xs)) d 217 1188 [x0, x1, x2, x3] (.int (xs i.toNatClampNeg) :: st) M P) := zr_ialdx um217 (rfl : zk_lk zm_217.2.2.2.2.2 1187 = some (.iaload)) h1 rfl
set_option maxRecDepth 20000 in
theorem u217_1192 {x0 x1 x2 x3 : Option Value} {i : Int32} {L : Nat} {xs : Nat → Int32} (h1 : M.1 ≤ 1000) : zk_R (some (L, xs)) d 217 1192 [x0, x1, x2, x3] (.int i :: .ref (1000 : Nat) :: st) M P = (zk_inb i L = true ∧ zk_R (some (L, xs)) d 217 1193 [x0, x1, x2, x3] (.int (xs i.toNatClampNeg) :: st) M P) := zr_ialdx um217 (rfl : zk_lk zm_217.2.2.2.2.2 1192 = some (.iaload)) h1 rfl
set_option maxRecDepth 20000 in
theorem u217_1201 {x0 x1 x2 x3 : Option Value} {i : Int32} {L : Nat} {xs : Nat → Int32} (h1 : M.1 ≤ 1000) : zk_R (some (L, xs)) d 217 1201 [x0, x1, x2, x3] (.int i :: .ref (1000 : Nat) :: st) M P = (zk_inb i L = true ∧ zk_R (some (L, xs)) d 217 1202 [x0, x1, x2, x3] (.int (xs i.toNatClampNeg) :: st) M P) := zr_ialdx um217 (rfl : zk_lk zm_217.2.2.2.2.2 1201 = some (.iaload)) h1 rfl
set_option maxRecDepth 20000 in
theorem u217_1206 {x0 x1 x2 x3 : Option Value} {i : Int32} {L : Nat} {xs : Nat → Int32} (h1 : M.1 ≤ 1000) : zk_R (some (L, xs)) d 217 1206 [x0, x1, x2, x3] (.int i :: .ref (1000 : Nat) :: st) M P = (zk_inb i L = true ∧ zk_R (some (L, xs)) d 217 1207 [x0, x1, x2, x3] (.int (xs i.toNatClampNeg) :: st) M P) := zr_ialdx um217 (rfl : zk_lk zm_217.2.2.2.2.2 1206 = some (.iaload)) h1 rfl
set_option maxRecDepth 20000 in
theorem u217_1211 {x0 x1 x2 x3 : Option Value} {i : Int32} {L : Nat} {xs : Nat → Int32} (h1 : M.1 ≤ 1000) : zk_R (some (L, xs)) d 217 1211 [x0, x1, x2, x3] (.int i :: .ref (1000 : Nat) :: st) M P = (zk_inb i L = true ∧ zk_R (some (L, xs)) d 217 1212 [x0, x1, x2, x3] (.int (xs i.toNatClampNeg) :: st) M P) := zr_ialdx um217 (rfl : zk_lk zm_217.2.2.2.2.2 1211 = some (.iaload)) h1 rfl
set_option maxRecDepth 20000 in
theorem u217_1225 {x0 x1 x2 x3 : Option Value} {i : Int32} {L : Nat} {xs : Nat → Int32} (h1 : M.1 ≤ 1000) : zk_R (some (L, xs)) d 217 1225 [x0, x1, x2, x3] (.int i :: .ref (1000 : Nat) :: st) M P = (zk_inb i L = true ∧ zk_R (some (L, xs)) d 217 1226 [x0, x1, x2, x3] (.int (xs i.toNatClampNeg) :: st) M P) := zr_ialdx um217 (rfl : zk_lk zm_217.2.2.2.2.2 1225 = some (.iaload)) h1 rfl
set_option maxRecDepth 20000 in
theorem u217_1230 {x0 x1 x2 x3 : Option Value} {i : Int32} {L : Nat} {xs : Nat → Int32} (h1 : M.1 ≤ 1000) : zk_R (some (L, xs)) d 217 1230 [x0, x1, x2, x3] (.int i :: .ref (1000 : Nat) :: st) M P = (zk_inb i L = true ∧ zk_R (some (L, xs)) d 217 1231 [x0, x1, x2, x3] (.int (xs i.toNatClampNeg) :: st) M P) := zr_ialdx um217 (rfl : zk_lk zm_217.2.2.2.2.2 1230 = some (.iaload)) h1 rfl
set_option maxRecDepth 20000 in
theorem u217_1235 {x0 x1 x2 x3 : Option Value} {i : Int32} {L : Nat} {xs : Nat → Int32} (h1 : M.1 ≤ 1000) : zk_R (some (L, xs)) d 217 1235 [x0, x1, x2, x3] (.int i :: .ref (1000 : Nat) :: st) M P = (zk_inb i L = true ∧ zk_R (some (L, xs)) d 217 1236 [x0, x1, x2, x3] (.int (xs i.toNatClampNeg) :: st) M P) := zr_ialdx um217 (rfl : zk_lk zm_217.2.2.2.2.2 1235 = some (.iaload)) h1 rfl
set_option maxRecDepth 20000 in
theorem u217_1244 {x0 x1 x2 x3 : Option Value} {i : Int32} {L : Nat} {xs : Nat → Int32} (h1 : M.1 ≤ 1000) : zk_R (some (L, xs)) d 217 1244 [x0, x1, x2, x3] (.int i :: .ref (1000 : Nat) :: st) M P = (zk_inb i L = true ∧ zk_R (some (L, xs)) d 217 1245 [x0, x1, x2, x3] (.int (xs i.toNatClampNeg) :: st) M P) := zr_ialdx um217 (rfl : zk_lk zm_217.2.2.2.2.2 1244 = some (.iaload)) h1 rfl
set_option maxRecDepth 20000 in
theorem u217_1249 {x0 x1 x2 x3 : Option Value} {i : Int32} {L : Nat} {xs : Nat → Int32} (h1 : M.1 ≤ 1000) : zk_R (some (L, xs)) d 217 1249 [x0, x1, x2, x3] (.int i :: .ref (1000 : Nat) :: st) M P = (zk_inb i L = true ∧ zk_R (some (L, xs)) d 217 1250 [x0, x1, x2, x3] (.int (xs i.toNatClampNeg) :: st) M P) := zr_ialdx um217 (rfl : zk_lk zm_217.2.2.2.2.2 1249 = some (.iaload)) h1 rfl
set_option maxRecDepth 20000 in
theorem u217_1254 {x0 x1 x2 x3 : Option Value} {i : Int32} {L : Nat} {xs : Nat → Int32} (h1 : M.1 ≤ 1000) : zk_R (some (L, xs)) d 217 1254 [x0, x1, x2, x3] (.int i :: .ref (1000 : Nat) :: st) M P = (zk_inb i L = true ∧ zk_R (some (L, xs)) d 217 1255 [x0, x1, x2, x3] (.int (xs i.toNatClampNeg) :: st) M P) := zr_ialdx um217 (rfl : zk_lk zm_217.2.2.2.2.2 1254 = some (.iaload)) h1 rfl
set_option maxRecDepth 20000 in
theorem u217_1268 {x0 x1 x2 x3 : Option Value} {i : Int32} {L : Nat} {xs : Nat → Int32} (h1 : M.1 ≤ 1000) : zk_R (some (L, xs)) d 217 1268 [x0, x1, x2, x3] (.int i :: .ref (1000 : Nat) :: st) M P = (zk_inb i L = true ∧ zk_R (some (L, xs)) d 217 1269 [x0, x1, x2, x3] (.int (xs i.toNatClampNeg) :: st) M P) := zr_ialdx um217 (rfl : zk_lk zm_217.2.2.2.2.2 1268 = some (.iaload)) h1 rfl
set_option maxRecDepth 20000 in
theorem u217_1273 {x0 x1 x2 x3 : Option Value} {i : Int32} {L : Nat} {xs : Nat → Int32} (h1 : M.1 ≤ 1000) : zk_R (some (L, xs)) d 217 1273 [x0, x1, x2, x3] (.int i :: .ref (1000 : Nat) :: st) M P = (zk_inb i L = true ∧ zk_R (some (L, xs)) d 217 1274 [x0, x1, x2, x3] (.int (xs i.toNatClampNeg) :: st) M P) := zr_ialdx um217 (rfl : zk_lk zm_217.2.2.2.2.2 1273 = some (.iaload)) h1 rfl
set_option maxRecDepth 20000 in
theorem u217_1278 {x0 x1 x2 x3 : Option Value} {i : Int32} {L : Nat} {xs : Nat → Int32} (h1 : M.1 ≤ 1000) : zk_R (some (L, xs)) d 217 1278 [x0, x1, x2, x3] (.int i :: .ref (1000 : Nat) :: st) M P = (zk_inb i L = true ∧ zk_R (some (L, xs)) d 217 1279 [x0, x1, x2, x3] (.int (xs i.toNatClampNeg) :: st) M P) := zr_ialdx um217 (rfl : zk_lk zm_217.2.2.2.2.2 1278 = some (.iaload)) h1 rfl
set_option maxRecDepth 20000 in
theorem u217_1283 {x0 x1 x2 x3 : Option Value} {i : Int32} {L : Nat} {xs : Nat → Int32} (h1 : M.1 ≤ 1000) : zk_R (some (L, xs)) d 217 1283 [x0, x1, x2, x3] (.int i :: .ref (1000 : Nat) :: st) M P = (zk_inb i L = true ∧ zk_R (some (L, xs)) d 217 1284 [x0, x1, x2, x3] (.int (xs i.toNatClampNeg) :: st) M P) := zr_ialdx um217 (rfl : zk_lk zm_217.2.2.2.2.2 1283 = some (.iaload)) h1 rfl
set_option maxRecDepth 20000 in
theorem u217_1288 {x0 x1 x2 x3 : Option Value} {i : Int32} {L : Nat} {xs : Nat → Int32} (h1 : M.1 ≤ 1000) : zk_R (some (L, xs)) d 217 1288 [x0, x1, x2, x3] (.int i :: .ref (1000 : Nat) :: st) M P = (zk_inb i L = true ∧ zk_R (some (L, xs)) d 217 1289 [x0, x1, x2, x3] (.int (xs i.toNatClampNeg) :: st) M P) := zr_ialdx um217 (rfl : zk_lk zm_217.2.2.2.2.2 1288 = some (.iaload)) h1 rfl
set_option maxRecDepth 20000 in
theorem u217_1297 {x0 x1 x2 x3 : Option Value} {i : Int32} {L : Nat} {xs : Nat → Int32} (h1 : M.1 ≤ 1000) : zk_R (some (L, xs)) d 217 1297 [x0, x1, x2, x3] (.int i :: .ref (1000 : Nat) :: st) M P = (zk_inb i L = true ∧ zk_R (some (L, xs)) d 217 1298 [x0, x1, x2, x3] (.int (xs i.toNatClampNeg) :: st) M P) := zr_ialdx um217 (rfl : zk_lk zm_217.2.2.2.2.2 1297 = some (.iaload)) h1 rfl
set_option maxRecDepth 20000 in
theorem u217_1302 {x0 x1 x2 x3 : Option Value} {i : Int32} {L : Nat} {xs : Nat → Int32} (h1 : M.1 ≤ 1000) : zk_R (some (L, xs)) d 217 1302 [x0, x1, x2, x3] (.int i :: .ref (1000 : Nat) :: st) M P = (zk_inb i L = true ∧ zk_R (some (L, xs)) d 217 1303 [x0, x1, x2, x3] (.int (xs i.toNatClampNeg) :: st) M P) := zr_ialdx um217 (rfl : zk_lk zm_217.2.2.2.2.2 1302 = some (.iaload)) h1 rfl
set_option maxRecDepth 20000 in
theorem u217_1307 {x0 x1 x2 x3 : Option Value} {i : Int32} {L : Nat} {xs : Nat → Int32} (h1 : M.1 ≤ 1000) : zk_R (some (L, xs)) d 217 1307 [x0, x1, x2, x3] (.int i :: .ref (1000 : Nat) :: st) M P = (zk_inb i L = true ∧ zk_R (some (L, xs)) d 217 1308 [x0, x1, x2, x3] (.int (xs i.toNatClampNeg) :: st) M P) := zr_ialdx um217 (rfl : zk_lk zm_217.2.2.2.2.2 1307 = some (.iaload)) h1 rfl
set_option maxRecDepth 20000 in
theorem u217_1312 {x0 x1 x2 x3 : Option Value} {i : Int32} {L : Nat} {xs : Nat → Int32} (h1 : M.1 ≤ 1000) : zk_R (some (L, xs)) d 217 1312 [x0, x1, x2, x3] (.int i :: .ref (1000 : Nat) :: st) M P = (zk_inb i L = true ∧ zk_R (some (L, xs)) d 217 1313 [x0, x1, x2, x3] (.int (xs i.toNatClampNeg) :: st) M P) := zr_ialdx um217 (rfl : zk_lk zm_217.2.2.2.2.2 1312 = some (.iaload)) h1 rfl
set_option maxRecDepth 20000 in
theorem u217_1317 {x0 x1 x2 x3 : Option Value} {i : Int32} {L : Nat} {xs : Nat → Int32} (h1 : M.1 ≤ 1000) : zk_R (some (L, xs)) d 217 1317 [x0, x1, x2, x3] (.int i :: .ref (1000 : Nat) :: st) M P = (zk_inb i L = true ∧ zk_R (some (L, xs)) d 217 1318 [x0, x1, x2, x3] (.int (xs i.toNatClampNeg) :: st) M P) := zr_ialdx um217 (rfl : zk_lk zm_217.2.2.2.2.2 1317 = some (.iaload)) h1 rfl
set_option maxRecDepth 20000 in
theorem u217_1331 {x0 x1 x2 x3 : Option Value} {i : Int32} {L : Nat} {xs : Nat → Int32} (h1 : M.1 ≤ 1000) : zk_R (some (L, xs)) d 217 1331 [x0, x1, x2, x3] (.int i :: .ref (1000 : Nat) :: st) M P = (zk_inb i L = true ∧ zk_R (some (L, xs)) d 217 1332 [x0, x1, x2, x3] (.int (xs i.toNatClampNeg) :: st) M P) := zr_ialdx um217 (rfl : zk_lk zm_217.2.2.2.2.2 1331 = some (.iaload)) h1 rfl
set_option maxRecDepth 20000 in
theorem u217_1336 {x0 x1 x2 x3 : Option Value} {i : Int32} {L : Nat} {xs : Nat → Int32} (h1 : M.1 ≤ 1000) : zk_R (some (L, xs)) d 217 1336 [x0, x1, x2, x3] (.int i :: .ref (1000 : Nat) :: st) M P = (zk_inb i L = true ∧ zk_R (some (L, xs)) d 217 1337 [x0, x1, x2, x3] (.int (xs i.toNatClampNeg) :: st) M P) := zr_ialdx um217 (rfl : zk_lk zm_217.2.2.2.2.2 1336 = some (.iaload)) h1 rfl
set_option maxRecDepth 20000 in
theorem u217_1341 {x0 x1 x2 x3 : Option Value} {i : Int32} {L : Nat} {xs : Nat → Int32} (h1 : M.1 ≤ 1000) : zk_R (some (L, xs)) d 217 1341 [x0, x1, x2, x3] (.int i :: .ref (1000 : Nat) :: st) M P = (zk_inb i L = true ∧ zk_R (some (L, xs)) d 217 1342 [x0, x1, x2, x3] (.int (xs i.toNatClampNeg) :: st) M P) := zr_ialdx um217 (rfl : zk_lk zm_217.2.2.2.2.2 1341 = some (.iaload)) h1 rfl
set_option maxRecDepth 20000 in
theorem u217_1346 {x0 x1 x2 x3 : Option Value} {i : Int32} {L : Nat} {xs : Nat → Int32} (h1 : M.1 ≤ 1000) : zk_R (some (L, xs)) d 217 1346 [x0, x1, x2, x3] (.int i :: .ref (1000 : Nat) :: st) M P = (zk_inb i L = true ∧ zk_R (some (L, xs)) d 217 1347 [x0, x1, x2, x3] (.int (xs i.toNatClampNeg) :: st) M P) := zr_ialdx um217 (rfl : zk_lk zm_217.2.2.2.2.2 1346 = some (.iaload)) h1 rfl
set_option maxRecDepth 20000 in
theorem u217_1355 {x0 x1 x2 x3 : Option Value} {i : Int32} {L : Nat} {xs : Nat → Int32} (h1 : M.1 ≤ 1000) : zk_R (some (L, xs)) d 217 1355 [x0, x1, x2, x3] (.int i :: .ref (1000 : Nat) :: st) M P = (zk_inb i L = true ∧ zk_R (some (L, xs)) d 217 1356 [x0, x1, x2, x3] (.int (xs i.toNatClampNeg) :: st) M P) := zr_ialdx um217 (rfl : zk_lk zm_217.2.2.2.2.2 1355 = some (.iaload)) h1 rfl
set_option maxRecDepth 20000 in
theorem u217_1360 {x0 x1 x2 x3 : Option Value} {i : Int32} {L : Nat} {xs : Nat → Int32} (h1 : M.1 ≤ 1000) : zk_R (some (L, xs)) d 217 1360 [x0, x1, x2, x3] (.int i :: .ref (1000 : Nat) :: st) M P = (zk_inb i L = true ∧ zk_R (some (L, xs)) d 217 1361 [x0, x1, x2, x3] (.int (xs i.toNatClampNeg) :: st) M P) := zr_ialdx um217 (rfl : zk_lk zm_217.2.2.2.2.2 1360 = some (.iaload)) h1 rfl
set_option maxRecDepth 20000 in
theorem u217_1365 {x0 x1 x2 x3 : Option Value} {i : Int32} {L : Nat} {xs : Nat → Int32} (h1 : M.1 ≤ 1000) : zk_R (some (L, xs)) d 217 1365 [x0, x1, x2, x3] (.int i :: .ref (1000 : Nat) :: st) M P = (zk_inb i L = true ∧ zk_R (some (L, xs)) d 217 1366 [x0, x1, x2, x3] (.int (xs i.toNatClampNeg) :: st) M P) := zr_ialdx um217 (rfl : zk_lk zm_217.2.2.2.2.2 1365 = some (.iaload)) h1 rfl
set_option maxRecDepth 20000 in
theorem u217_1370 {x0 x1 x2 x3 : Option Value} {i : Int32} {L : Nat} {xs : Nat → Int32} (h1 : M.1 ≤ 1000) : zk_R (some (L, xs)) d 217 1370 [x0, x1, x2, x3] (.int i :: .ref (1000 : Nat) :: st) M P = (zk_inb i L = true ∧ zk_R (some (L, xs)) d 217 1371 [x0, x1, x2, x3] (.int (xs i.toNatClampNeg) :: st) M P) := zr_ialdx um217 (rfl : zk_lk zm_217.2.2.2.2.2 1370 = some (.iaload)) h1 rfl
set_option maxRecDepth 20000 in
theorem u217_1384 {x0 x1 x2 x3 : Option Value} {i : Int32} {L : Nat} {xs : Nat → Int32} (h1 : M.1 ≤ 1000) : zk_R (some (L, xs)) d 217 1384 [x0, x1, x2, x3] (.int i :: .ref (1000 : Nat) :: st) M P = (zk_inb i L = true ∧ zk_R (some (L, xs)) d 217 1385 [x0, x1, x2, x3] (.int (xs i.toNatClampNeg) :: st) M P) := zr_ialdx um217 (rfl : zk_lk zm_217.2.2.2.2.2 1384 = some (.iaload)) h1 rfl
set_option maxRecDepth 20000 in
theorem u217_1389 {x0 x1 x2 x3 : Option Value} {i : Int32} {L : Nat} {xs : Nat → Int32} (h1 : M.1 ≤ 1000) : zk_R (some (L, xs)) d 217 1389 [x0, x1, x2, x3] (.int i :: .ref (1000 : Nat) :: st) M P = (zk_inb i L = true ∧ zk_R (some (L, xs)) d 217 1390 [x0, x1, x2, x3] (.int (xs i.toNatClampNeg) :: st) M P) := zr_ialdx um217 (rfl : zk_lk zm_217.2.2.2.2.2 1389 = some (.iaload)) h1 rfl
set_option maxRecDepth 20000 in
theorem u217_1398 {x0 x1 x2 x3 : Option Value} {i : Int32} {L : Nat} {xs : Nat → Int32} (h1 : M.1 ≤ 1000) : zk_R (some (L, xs)) d 217 1398 [x0, x1, x2, x3] (.int i :: .ref (1000 : Nat) :: st) M P = (zk_inb i L = true ∧ zk_R (some (L, xs)) d 217 1399 [x0, x1, x2, x3] (.int (xs i.toNatClampNeg) :: st) M P) := zr_ialdx um217 (rfl : zk_lk zm_217.2.2.2.2.2 1398 = some (.iaload)) h1 rfl
set_option maxRecDepth 20000 in
theorem u217_1403 {x0 x1 x2 x3 : Option Value} {i : Int32} {L : Nat} {xs : Nat → Int32} (h1 : M.1 ≤ 1000) : zk_R (some (L, xs)) d 217 1403 [x0, x1, x2, x3] (.int i :: .ref (1000 : Nat) :: st) M P = (zk_inb i L = true ∧ zk_R (some (L, xs)) d 217 1404 [x0, x1, x2, x3] (.int (xs i.toNatClampNeg) :: st) M P) := zr_ialdx um217 (rfl : zk_lk zm_217.2.2.2.2.2 1403 = some (.iaload)) h1 rfl
end UU
