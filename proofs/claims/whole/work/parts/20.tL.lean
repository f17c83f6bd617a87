/-! THE TABLES BY PLACE -/
theorem m_109 {Ls : Nat} {xs : Nat → Int32} (pc : Nat) : am_tbl Ls xs 109 pc = am_lk (op_L_law Ls xs) pc := rfl
theorem t_109_18 {Ls : Nat} {xs : Nat → Int32} : am_tbl Ls xs 109 18 = some (o_nrm [0, 1, 2, 3] (o_iload 3 1)) := (m_109 18).trans rfl
theorem t_109_19 {Ls : Nat} {xs : Nat → Int32} : am_tbl Ls xs 109 19 = some (o_aload 0 1) := (m_109 19).trans rfl
theorem t_109_20 {Ls : Nat} {xs : Nat → Int32} : am_tbl Ls xs 109 20 = some (o_slen Ls) := (m_109 20).trans rfl
theorem t_109_21 {Ls : Nat} {xs : Nat → Int32} : am_tbl Ls xs 109 21 = some (o_push (.int 5) 1) := (m_109 21).trans rfl
theorem t_109_22 {Ls : Nat} {xs : Nat → Int32} : am_tbl Ls xs 109 22 = some (o_ibin (fun x y => x - y)) := (m_109 22).trans rfl
theorem t_109_23 {Ls : Nat} {xs : Nat → Int32} : am_tbl Ls xs 109 23 = some (o_icmp (fun x y => decide (y < x)) 1066) := (m_109 23).trans rfl
theorem t_109_26 {Ls : Nat} {xs : Nat → Int32} : am_tbl Ls xs 109 26 = some (o_aload 0 1) := (m_109 26).trans rfl
theorem t_109_27 {Ls : Nat} {xs : Nat → Int32} : am_tbl Ls xs 109 27 = some (o_iload 3 1) := (m_109 27).trans rfl
theorem t_109_28 {Ls : Nat} {xs : Nat → Int32} : am_tbl Ls xs 109 28 = some (o_sld Ls xs) := (m_109 28).trans rfl
theorem t_109_29 {Ls : Nat} {xs : Nat → Int32} : am_tbl Ls xs 109 29 = some (o_push (.int 31) 2) := (m_109 29).trans rfl
theorem t_109_31 {Ls : Nat} {xs : Nat → Int32} : am_tbl Ls xs 109 31 = some (o_ibin (fun x y => x &&& y)) := (m_109 31).trans rfl
theorem t_109_32 {Ls : Nat} {xs : Nat → Int32} : am_tbl Ls xs 109 32 = some (o_tsw 0 27 [160, 223, 236, 249, 272, 325, 358, 391, 434, 483, 506, 549, 572, 605, 658, 691, 724, 747, 790, 833, 856, 889, 922, 965, 978, 991, 1014, 1037] 1060) := (m_109 32).trans rfl
theorem t_109_160 {Ls : Nat} {xs : Nat → Int32} : am_tbl Ls xs 109 160 = some (o_aload 1 1) := (m_109 160).trans rfl
theorem t_109_161 {Ls : Nat} {xs : Nat → Int32} : am_tbl Ls xs 109 161 = some (o_aload 0 1) := (m_109 161).trans rfl
theorem t_109_162 {Ls : Nat} {xs : Nat → Int32} : am_tbl Ls xs 109 162 = some (o_iload 3 1) := (m_109 162).trans rfl
theorem t_109_163 {Ls : Nat} {xs : Nat → Int32} : am_tbl Ls xs 109 163 = some (o_push (.int 1) 1) := (m_109 163).trans rfl
theorem t_109_164 {Ls : Nat} {xs : Nat → Int32} : am_tbl Ls xs 109 164 = some (o_ibin (fun x y => x + y)) := (m_109 164).trans rfl
theorem t_109_165 {Ls : Nat} {xs : Nat → Int32} : am_tbl Ls xs 109 165 = some (o_sld Ls xs) := (m_109 165).trans rfl
theorem t_109_166 {Ls : Nat} {xs : Nat → Int32} : am_tbl Ls xs 109 166 = some (o_aload 0 1) := (m_109 166).trans rfl
theorem t_109_167 {Ls : Nat} {xs : Nat → Int32} : am_tbl Ls xs 109 167 = some (o_iload 3 1) := (m_109 167).trans rfl
theorem t_109_168 {Ls : Nat} {xs : Nat → Int32} : am_tbl Ls xs 109 168 = some (o_push (.int 2) 1) := (m_109 168).trans rfl
theorem t_109_169 {Ls : Nat} {xs : Nat → Int32} : am_tbl Ls xs 109 169 = some (o_ibin (fun x y => x + y)) := (m_109 169).trans rfl
theorem t_109_170 {Ls : Nat} {xs : Nat → Int32} : am_tbl Ls xs 109 170 = some (o_sld Ls xs) := (m_109 170).trans rfl
theorem t_109_171 {Ls : Nat} {xs : Nat → Int32} : am_tbl Ls xs 109 171 = some (o_i2l) := (m_109 171).trans rfl
theorem t_109_172 {Ls : Nat} {xs : Nat → Int32} : am_tbl Ls xs 109 172 = some (o_push (.int 32) 2) := (m_109 172).trans rfl
theorem t_109_174 {Ls : Nat} {xs : Nat → Int32} : am_tbl Ls xs 109 174 = some (o_lsh (fun x y => x <<< (y.toInt64 &&& 63))) := (m_109 174).trans rfl
theorem t_109_175 {Ls : Nat} {xs : Nat → Int32} : am_tbl Ls xs 109 175 = some (o_aload 0 1) := (m_109 175).trans rfl
theorem t_109_176 {Ls : Nat} {xs : Nat → Int32} : am_tbl Ls xs 109 176 = some (o_iload 3 1) := (m_109 176).trans rfl
theorem t_109_177 {Ls : Nat} {xs : Nat → Int32} : am_tbl Ls xs 109 177 = some (o_push (.int 3) 1) := (m_109 177).trans rfl
theorem t_109_178 {Ls : Nat} {xs : Nat → Int32} : am_tbl Ls xs 109 178 = some (o_ibin (fun x y => x + y)) := (m_109 178).trans rfl
theorem t_109_179 {Ls : Nat} {xs : Nat → Int32} : am_tbl Ls xs 109 179 = some (o_sld Ls xs) := (m_109 179).trans rfl
theorem t_109_180 {Ls : Nat} {xs : Nat → Int32} : am_tbl Ls xs 109 180 = some (o_i2l) := (m_109 180).trans rfl
theorem t_109_181 {Ls : Nat} {xs : Nat → Int32} : am_tbl Ls xs 109 181 = some (o_push (.long 4294967295) 3) := (m_109 181).trans rfl
theorem t_109_184 {Ls : Nat} {xs : Nat → Int32} : am_tbl Ls xs 109 184 = some (o_lbin (fun x y => x &&& y)) := (m_109 184).trans rfl
theorem t_109_185 {Ls : Nat} {xs : Nat → Int32} : am_tbl Ls xs 109 185 = some (o_lbin (fun x y => x ||| y)) := (m_109 185).trans rfl
theorem t_109_186 {Ls : Nat} {xs : Nat → Int32} : am_tbl Ls xs 109 186 = some (o_callv 76 2 8 4) := (m_109 186).trans rfl
theorem t_109_189 {Ls : Nat} {xs : Nat → Int32} : am_tbl Ls xs 109 189 = some (o_aload 2 1) := (m_109 189).trans rfl
theorem t_109_190 {Ls : Nat} {xs : Nat → Int32} : am_tbl Ls xs 109 190 = some (o_aload 0 1) := (m_109 190).trans rfl
theorem t_109_191 {Ls : Nat} {xs : Nat → Int32} : am_tbl Ls xs 109 191 = some (o_iload 3 1) := (m_109 191).trans rfl
theorem t_109_192 {Ls : Nat} {xs : Nat → Int32} : am_tbl Ls xs 109 192 = some (o_push (.int 1) 1) := (m_109 192).trans rfl
theorem t_109_193 {Ls : Nat} {xs : Nat → Int32} : am_tbl Ls xs 109 193 = some (o_ibin (fun x y => x + y)) := (m_109 193).trans rfl
theorem t_109_194 {Ls : Nat} {xs : Nat → Int32} : am_tbl Ls xs 109 194 = some (o_sld Ls xs) := (m_109 194).trans rfl
theorem t_109_195 {Ls : Nat} {xs : Nat → Int32} : am_tbl Ls xs 109 195 = some (o_aload 0 1) := (m_109 195).trans rfl
theorem t_109_196 {Ls : Nat} {xs : Nat → Int32} : am_tbl Ls xs 109 196 = some (o_iload 3 1) := (m_109 196).trans rfl
theorem t_109_197 {Ls : Nat} {xs : Nat → Int32} : am_tbl Ls xs 109 197 = some (o_push (.int 2) 1) := (m_109 197).trans rfl
theorem t_109_198 {Ls : Nat} {xs : Nat → Int32} : am_tbl Ls xs 109 198 = some (o_ibin (fun x y => x + y)) := (m_109 198).trans rfl
theorem t_109_199 {Ls : Nat} {xs : Nat → Int32} : am_tbl Ls xs 109 199 = some (o_sld Ls xs) := (m_109 199).trans rfl
theorem t_109_200 {Ls : Nat} {xs : Nat → Int32} : am_tbl Ls xs 109 200 = some (o_i2l) := (m_109 200).trans rfl
theorem t_109_201 {Ls : Nat} {xs : Nat → Int32} : am_tbl Ls xs 109 201 = some (o_push (.int 32) 2) := (m_109 201).trans rfl
theorem t_109_203 {Ls : Nat} {xs : Nat → Int32} : am_tbl Ls xs 109 203 = some (o_lsh (fun x y => x <<< (y.toInt64 &&& 63))) := (m_109 203).trans rfl
theorem t_109_204 {Ls : Nat} {xs : Nat → Int32} : am_tbl Ls xs 109 204 = some (o_aload 0 1) := (m_109 204).trans rfl
set_option maxRecDepth 20000 in
theorem t_109_205 {Ls : Nat} {xs : Nat → Int32} : am_tbl Ls xs 109 205 = some (o_iload 3 1) := (m_109 205).trans rfl
set_option maxRecDepth 20000 in
theorem t_109_206 {Ls : Nat} {xs : Nat → Int32} : am_tbl Ls xs 109 206 = some (o_push (.int 3) 1) := (m_109 206).trans rfl
set_option maxRecDepth 20000 in
theorem t_109_207 {Ls : Nat} {xs : Nat → Int32} : am_tbl Ls xs 109 207 = some (o_ibin (fun x y => x + y)) := (m_109 207).trans rfl
set_option maxRecDepth 20000 in
theorem t_109_208 {Ls : Nat} {xs : Nat → Int32} : am_tbl Ls xs 109 208 = some (o_sld Ls xs) := (m_109 208).trans rfl
set_option maxRecDepth 20000 in
theorem t_109_209 {Ls : Nat} {xs : Nat → Int32} : am_tbl Ls xs 109 209 = some (o_i2l) := (m_109 209).trans rfl
set_option maxRecDepth 20000 in
theorem t_109_210 {Ls : Nat} {xs : Nat → Int32} : am_tbl Ls xs 109 210 = some (o_push (.long 4294967295) 3) := (m_109 210).trans rfl
set_option maxRecDepth 20000 in
theorem t_109_213 {Ls : Nat} {xs : Nat → Int32} : am_tbl Ls xs 109 213 = some (o_lbin (fun x y => x &&& y)) := (m_109 213).trans rfl
set_option maxRecDepth 20000 in
theorem t_109_214 {Ls : Nat} {xs : Nat → Int32} : am_tbl Ls xs 109 214 = some (o_lbin (fun x y => x ||| y)) := (m_109 214).trans rfl
set_option maxRecDepth 20000 in
theorem t_109_215 {Ls : Nat} {xs : Nat → Int32} : am_tbl Ls xs 109 215 = some (o_callv 9 2 9 5) := (m_109 215).trans rfl
set_option maxRecDepth 20000 in
theorem t_109_218 {Ls : Nat} {xs : Nat → Int32} : am_tbl Ls xs 109 218 = some (o_icmp (fun x y => decide (x = y)) 1060) := (m_109 218).trans rfl
set_option maxRecDepth 20000 in
theorem t_109_221 {Ls : Nat} {xs : Nat → Int32} : am_tbl Ls xs 109 221 = some (o_push (.int 0) 1) := (m_109 221).trans rfl
set_option maxRecDepth 20000 in
theorem t_109_222 {Ls : Nat} {xs : Nat → Int32} : am_tbl Ls xs 109 222 = some (o_zret) := (m_109 222).trans rfl
set_option maxRecDepth 20000 in
theorem t_109_223 {Ls : Nat} {xs : Nat → Int32} : am_tbl Ls xs 109 223 = some (o_aload 1 1) := (m_109 223).trans rfl
set_option maxRecDepth 20000 in
theorem t_109_224 {Ls : Nat} {xs : Nat → Int32} : am_tbl Ls xs 109 224 = some (o_callv 77 0 8 3) := (m_109 224).trans rfl
set_option maxRecDepth 20000 in
theorem t_109_227 {Ls : Nat} {xs : Nat → Int32} : am_tbl Ls xs 109 227 = some (o_aload 2 1) := (m_109 227).trans rfl
set_option maxRecDepth 20000 in
theorem t_109_228 {Ls : Nat} {xs : Nat → Int32} : am_tbl Ls xs 109 228 = some (o_callv 25 0 9 3) := (m_109 228).trans rfl
set_option maxRecDepth 20000 in
theorem t_109_231 {Ls : Nat} {xs : Nat → Int32} : am_tbl Ls xs 109 231 = some (o_icmp (fun x y => decide (x = y)) 1060) := (m_109 231).trans rfl
set_option maxRecDepth 20000 in
theorem t_109_234 {Ls : Nat} {xs : Nat → Int32} : am_tbl Ls xs 109 234 = some (o_push (.int 0) 1) := (m_109 234).trans rfl
set_option maxRecDepth 20000 in
theorem t_109_235 {Ls : Nat} {xs : Nat → Int32} : am_tbl Ls xs 109 235 = some (o_zret) := (m_109 235).trans rfl
set_option maxRecDepth 20000 in
theorem t_109_236 {Ls : Nat} {xs : Nat → Int32} : am_tbl Ls xs 109 236 = some (o_aload 1 1) := (m_109 236).trans rfl
set_option maxRecDepth 20000 in
theorem t_109_237 {Ls : Nat} {xs : Nat → Int32} : am_tbl Ls xs 109 237 = some (o_callv 78 0 8 1) := (m_109 237).trans rfl
set_option maxRecDepth 20000 in
theorem t_109_240 {Ls : Nat} {xs : Nat → Int32} : am_tbl Ls xs 109 240 = some (o_aload 2 1) := (m_109 240).trans rfl
set_option maxRecDepth 20000 in
theorem t_109_241 {Ls : Nat} {xs : Nat → Int32} : am_tbl Ls xs 109 241 = some (o_callv 26 0 9 1) := (m_109 241).trans rfl
set_option maxRecDepth 20000 in
theorem t_109_244 {Ls : Nat} {xs : Nat → Int32} : am_tbl Ls xs 109 244 = some (o_icmp (fun x y => decide (x = y)) 1060) := (m_109 244).trans rfl
set_option maxRecDepth 20000 in
theorem t_109_247 {Ls : Nat} {xs : Nat → Int32} : am_tbl Ls xs 109 247 = some (o_push (.int 0) 1) := (m_109 247).trans rfl
set_option maxRecDepth 20000 in
theorem t_109_248 {Ls : Nat} {xs : Nat → Int32} : am_tbl Ls xs 109 248 = some (o_zret) := (m_109 248).trans rfl
set_option maxRecDepth 20000 in
theorem t_109_249 {Ls : Nat} {xs : Nat → Int32} : am_tbl Ls xs 109 249 = some (o_aload 1 1) := (m_109 249).trans rfl
set_option maxRecDepth 20000 in
theorem t_109_250 {Ls : Nat} {xs : Nat → Int32} : am_tbl Ls xs 109 250 = some (o_aload 0 1) := (m_109 250).trans rfl
set_option maxRecDepth 20000 in
theorem t_109_251 {Ls : Nat} {xs : Nat → Int32} : am_tbl Ls xs 109 251 = some (o_iload 3 1) := (m_109 251).trans rfl
set_option maxRecDepth 20000 in
theorem t_109_252 {Ls : Nat} {xs : Nat → Int32} : am_tbl Ls xs 109 252 = some (o_push (.int 1) 1) := (m_109 252).trans rfl
set_option maxRecDepth 20000 in
theorem t_109_253 {Ls : Nat} {xs : Nat → Int32} : am_tbl Ls xs 109 253 = some (o_ibin (fun x y => x + y)) := (m_109 253).trans rfl
set_option maxRecDepth 20000 in
theorem t_109_254 {Ls : Nat} {xs : Nat → Int32} : am_tbl Ls xs 109 254 = some (o_sld Ls xs) := (m_109 254).trans rfl
set_option maxRecDepth 20000 in
theorem t_109_255 {Ls : Nat} {xs : Nat → Int32} : am_tbl Ls xs 109 255 = some (o_callv 79 1 8 2) := (m_109 255).trans rfl
set_option maxRecDepth 20000 in
theorem t_109_258 {Ls : Nat} {xs : Nat → Int32} : am_tbl Ls xs 109 258 = some (o_aload 2 1) := (m_109 258).trans rfl
set_option maxRecDepth 20000 in
theorem t_109_259 {Ls : Nat} {xs : Nat → Int32} : am_tbl Ls xs 109 259 = some (o_aload 0 1) := (m_109 259).trans rfl
set_option maxRecDepth 20000 in
theorem t_109_260 {Ls : Nat} {xs : Nat → Int32} : am_tbl Ls xs 109 260 = some (o_iload 3 1) := (m_109 260).trans rfl
set_option maxRecDepth 20000 in
theorem t_109_261 {Ls : Nat} {xs : Nat → Int32} : am_tbl Ls xs 109 261 = some (o_push (.int 1) 1) := (m_109 261).trans rfl
set_option maxRecDepth 20000 in
theorem t_109_262 {Ls : Nat} {xs : Nat → Int32} : am_tbl Ls xs 109 262 = some (o_ibin (fun x y => x + y)) := (m_109 262).trans rfl
set_option maxRecDepth 20000 in
theorem t_109_263 {Ls : Nat} {xs : Nat → Int32} : am_tbl Ls xs 109 263 = some (o_sld Ls xs) := (m_109 263).trans rfl
set_option maxRecDepth 20000 in
theorem t_109_264 {Ls : Nat} {xs : Nat → Int32} : am_tbl Ls xs 109 264 = some (o_callv 36 1 9 2) := (m_109 264).trans rfl
set_option maxRecDepth 20000 in
theorem t_109_267 {Ls : Nat} {xs : Nat → Int32} : am_tbl Ls xs 109 267 = some (o_icmp (fun x y => decide (x = y)) 1060) := (m_109 267).trans rfl
set_option maxRecDepth 20000 in
theorem t_109_270 {Ls : Nat} {xs : Nat → Int32} : am_tbl Ls xs 109 270 = some (o_push (.int 0) 1) := (m_109 270).trans rfl
set_option maxRecDepth 20000 in
theorem t_109_271 {Ls : Nat} {xs : Nat → Int32} : am_tbl Ls xs 109 271 = some (o_zret) := (m_109 271).trans rfl
set_option maxRecDepth 20000 in
theorem t_109_272 {Ls : Nat} {xs : Nat → Int32} : am_tbl Ls xs 109 272 = some (o_aload 1 1) := (m_109 272).trans rfl
set_option maxRecDepth 20000 in
theorem t_109_273 {Ls : Nat} {xs : Nat → Int32} : am_tbl Ls xs 109 273 = some (o_aload 0 1) := (m_109 273).trans rfl
set_option maxRecDepth 20000 in
theorem t_109_274 {Ls : Nat} {xs : Nat → Int32} : am_tbl Ls xs 109 274 = some (o_iload 3 1) := (m_109 274).trans rfl
set_option maxRecDepth 20000 in
theorem t_109_275 {Ls : Nat} {xs : Nat → Int32} : am_tbl Ls xs 109 275 = some (o_push (.int 1) 1) := (m_109 275).trans rfl
set_option maxRecDepth 20000 in
theorem t_109_276 {Ls : Nat} {xs : Nat → Int32} : am_tbl Ls xs 109 276 = some (o_ibin (fun x y => x + y)) := (m_109 276).trans rfl
set_option maxRecDepth 20000 in
theorem t_109_277 {Ls : Nat} {xs : Nat → Int32} : am_tbl Ls xs 109 277 = some (o_sld Ls xs) := (m_109 277).trans rfl
set_option maxRecDepth 20000 in
theorem t_109_278 {Ls : Nat} {xs : Nat → Int32} : am_tbl Ls xs 109 278 = some (o_aload 0 1) := (m_109 278).trans rfl
set_option maxRecDepth 20000 in
theorem t_109_279 {Ls : Nat} {xs : Nat → Int32} : am_tbl Ls xs 109 279 = some (o_iload 3 1) := (m_109 279).trans rfl
set_option maxRecDepth 20000 in
theorem t_109_280 {Ls : Nat} {xs : Nat → Int32} : am_tbl Ls xs 109 280 = some (o_push (.int 2) 1) := (m_109 280).trans rfl
set_option maxRecDepth 20000 in
theorem t_109_281 {Ls : Nat} {xs : Nat → Int32} : am_tbl Ls xs 109 281 = some (o_ibin (fun x y => x + y)) := (m_109 281).trans rfl
set_option maxRecDepth 20000 in
theorem t_109_282 {Ls : Nat} {xs : Nat → Int32} : am_tbl Ls xs 109 282 = some (o_sld Ls xs) := (m_109 282).trans rfl
set_option maxRecDepth 20000 in
theorem t_109_283 {Ls : Nat} {xs : Nat → Int32} : am_tbl Ls xs 109 283 = some (o_aload 0 1) := (m_109 283).trans rfl
set_option maxRecDepth 20000 in
theorem t_109_284 {Ls : Nat} {xs : Nat → Int32} : am_tbl Ls xs 109 284 = some (o_iload 3 1) := (m_109 284).trans rfl
set_option maxRecDepth 20000 in
theorem t_109_285 {Ls : Nat} {xs : Nat → Int32} : am_tbl Ls xs 109 285 = some (o_push (.int 3) 1) := (m_109 285).trans rfl
set_option maxRecDepth 20000 in
theorem t_109_286 {Ls : Nat} {xs : Nat → Int32} : am_tbl Ls xs 109 286 = some (o_ibin (fun x y => x + y)) := (m_109 286).trans rfl
set_option maxRecDepth 20000 in
theorem t_109_287 {Ls : Nat} {xs : Nat → Int32} : am_tbl Ls xs 109 287 = some (o_sld Ls xs) := (m_109 287).trans rfl
set_option maxRecDepth 20000 in
theorem t_109_288 {Ls : Nat} {xs : Nat → Int32} : am_tbl Ls xs 109 288 = some (o_aload 0 1) := (m_109 288).trans rfl
set_option maxRecDepth 20000 in
theorem t_109_289 {Ls : Nat} {xs : Nat → Int32} : am_tbl Ls xs 109 289 = some (o_iload 3 1) := (m_109 289).trans rfl
set_option maxRecDepth 20000 in
theorem t_109_290 {Ls : Nat} {xs : Nat → Int32} : am_tbl Ls xs 109 290 = some (o_push (.int 4) 1) := (m_109 290).trans rfl
set_option maxRecDepth 20000 in
theorem t_109_291 {Ls : Nat} {xs : Nat → Int32} : am_tbl Ls xs 109 291 = some (o_ibin (fun x y => x + y)) := (m_109 291).trans rfl
set_option maxRecDepth 20000 in
theorem t_109_292 {Ls : Nat} {xs : Nat → Int32} : am_tbl Ls xs 109 292 = some (o_sld Ls xs) := (m_109 292).trans rfl
set_option maxRecDepth 20000 in
theorem t_109_293 {Ls : Nat} {xs : Nat → Int32} : am_tbl Ls xs 109 293 = some (o_callv 80 4 8 6) := (m_109 293).trans rfl
set_option maxRecDepth 20000 in
theorem t_109_296 {Ls : Nat} {xs : Nat → Int32} : am_tbl Ls xs 109 296 = some (o_aload 2 1) := (m_109 296).trans rfl
set_option maxRecDepth 20000 in
theorem t_109_297 {Ls : Nat} {xs : Nat → Int32} : am_tbl Ls xs 109 297 = some (o_aload 0 1) := (m_109 297).trans rfl
set_option maxRecDepth 20000 in
theorem t_109_298 {Ls : Nat} {xs : Nat → Int32} : am_tbl Ls xs 109 298 = some (o_iload 3 1) := (m_109 298).trans rfl
set_option maxRecDepth 20000 in
theorem t_109_299 {Ls : Nat} {xs : Nat → Int32} : am_tbl Ls xs 109 299 = some (o_push (.int 1) 1) := (m_109 299).trans rfl
set_option maxRecDepth 20000 in
theorem t_109_300 {Ls : Nat} {xs : Nat → Int32} : am_tbl Ls xs 109 300 = some (o_ibin (fun x y => x + y)) := (m_109 300).trans rfl
set_option maxRecDepth 20000 in
theorem t_109_301 {Ls : Nat} {xs : Nat → Int32} : am_tbl Ls xs 109 301 = some (o_sld Ls xs) := (m_109 301).trans rfl
set_option maxRecDepth 20000 in
theorem t_109_302 {Ls : Nat} {xs : Nat → Int32} : am_tbl Ls xs 109 302 = some (o_aload 0 1) := (m_109 302).trans rfl
set_option maxRecDepth 20000 in
theorem t_109_303 {Ls : Nat} {xs : Nat → Int32} : am_tbl Ls xs 109 303 = some (o_iload 3 1) := (m_109 303).trans rfl
set_option maxRecDepth 20000 in
theorem t_109_304 {Ls : Nat} {xs : Nat → Int32} : am_tbl Ls xs 109 304 = some (o_push (.int 2) 1) := (m_109 304).trans rfl
set_option maxRecDepth 20000 in
theorem t_109_305 {Ls : Nat} {xs : Nat → Int32} : am_tbl Ls xs 109 305 = some (o_ibin (fun x y => x + y)) := (m_109 305).trans rfl
set_option maxRecDepth 20000 in
theorem t_109_306 {Ls : Nat} {xs : Nat → Int32} : am_tbl Ls xs 109 306 = some (o_sld Ls xs) := (m_109 306).trans rfl
set_option maxRecDepth 20000 in
theorem t_109_307 {Ls : Nat} {xs : Nat → Int32} : am_tbl Ls xs 109 307 = some (o_aload 0 1) := (m_109 307).trans rfl
set_option maxRecDepth 20000 in
theorem t_109_308 {Ls : Nat} {xs : Nat → Int32} : am_tbl Ls xs 109 308 = some (o_iload 3 1) := (m_109 308).trans rfl
set_option maxRecDepth 20000 in
theorem t_109_309 {Ls : Nat} {xs : Nat → Int32} : am_tbl Ls xs 109 309 = some (o_push (.int 3) 1) := (m_109 309).trans rfl
set_option maxRecDepth 20000 in
theorem t_109_310 {Ls : Nat} {xs : Nat → Int32} : am_tbl Ls xs 109 310 = some (o_ibin (fun x y => x + y)) := (m_109 310).trans rfl
set_option maxRecDepth 20000 in
theorem t_109_311 {Ls : Nat} {xs : Nat → Int32} : am_tbl Ls xs 109 311 = some (o_sld Ls xs) := (m_109 311).trans rfl
set_option maxRecDepth 20000 in
theorem t_109_312 {Ls : Nat} {xs : Nat → Int32} : am_tbl Ls xs 109 312 = some (o_aload 0 1) := (m_109 312).trans rfl
set_option maxRecDepth 20000 in
theorem t_109_313 {Ls : Nat} {xs : Nat → Int32} : am_tbl Ls xs 109 313 = some (o_iload 3 1) := (m_109 313).trans rfl
set_option maxRecDepth 20000 in
theorem t_109_314 {Ls : Nat} {xs : Nat → Int32} : am_tbl Ls xs 109 314 = some (o_push (.int 4) 1) := (m_109 314).trans rfl
set_option maxRecDepth 20000 in
theorem t_109_315 {Ls : Nat} {xs : Nat → Int32} : am_tbl Ls xs 109 315 = some (o_ibin (fun x y => x + y)) := (m_109 315).trans rfl
set_option maxRecDepth 20000 in
theorem t_109_316 {Ls : Nat} {xs : Nat → Int32} : am_tbl Ls xs 109 316 = some (o_sld Ls xs) := (m_109 316).trans rfl
set_option maxRecDepth 20000 in
theorem t_109_317 {Ls : Nat} {xs : Nat → Int32} : am_tbl Ls xs 109 317 = some (o_callv 39 4 9 6) := (m_109 317).trans rfl
set_option maxRecDepth 20000 in
theorem t_109_320 {Ls : Nat} {xs : Nat → Int32} : am_tbl Ls xs 109 320 = some (o_icmp (fun x y => decide (x = y)) 1060) := (m_109 320).trans rfl
set_option maxRecDepth 20000 in
theorem t_109_323 {Ls : Nat} {xs : Nat → Int32} : am_tbl Ls xs 109 323 = some (o_push (.int 0) 1) := (m_109 323).trans rfl
set_option maxRecDepth 20000 in
theorem t_109_324 {Ls : Nat} {xs : Nat → Int32} : am_tbl Ls xs 109 324 = some (o_zret) := (m_109 324).trans rfl
set_option maxRecDepth 20000 in
theorem t_109_325 {Ls : Nat} {xs : Nat → Int32} : am_tbl Ls xs 109 325 = some (o_aload 1 1) := (m_109 325).trans rfl
set_option maxRecDepth 20000 in
theorem t_109_326 {Ls : Nat} {xs : Nat → Int32} : am_tbl Ls xs 109 326 = some (o_aload 0 1) := (m_109 326).trans rfl
set_option maxRecDepth 20000 in
theorem t_109_327 {Ls : Nat} {xs : Nat → Int32} : am_tbl Ls xs 109 327 = some (o_iload 3 1) := (m_109 327).trans rfl
set_option maxRecDepth 20000 in
theorem t_109_328 {Ls : Nat} {xs : Nat → Int32} : am_tbl Ls xs 109 328 = some (o_push (.int 1) 1) := (m_109 328).trans rfl
set_option maxRecDepth 20000 in
theorem t_109_329 {Ls : Nat} {xs : Nat → Int32} : am_tbl Ls xs 109 329 = some (o_ibin (fun x y => x + y)) := (m_109 329).trans rfl
set_option maxRecDepth 20000 in
theorem t_109_330 {Ls : Nat} {xs : Nat → Int32} : am_tbl Ls xs 109 330 = some (o_sld Ls xs) := (m_109 330).trans rfl
set_option maxRecDepth 20000 in
theorem t_109_331 {Ls : Nat} {xs : Nat → Int32} : am_tbl Ls xs 109 331 = some (o_aload 0 1) := (m_109 331).trans rfl
set_option maxRecDepth 20000 in
theorem t_109_332 {Ls : Nat} {xs : Nat → Int32} : am_tbl Ls xs 109 332 = some (o_iload 3 1) := (m_109 332).trans rfl
set_option maxRecDepth 20000 in
theorem t_109_333 {Ls : Nat} {xs : Nat → Int32} : am_tbl Ls xs 109 333 = some (o_push (.int 2) 1) := (m_109 333).trans rfl
set_option maxRecDepth 20000 in
theorem t_109_334 {Ls : Nat} {xs : Nat → Int32} : am_tbl Ls xs 109 334 = some (o_ibin (fun x y => x + y)) := (m_109 334).trans rfl
set_option maxRecDepth 20000 in
theorem t_109_335 {Ls : Nat} {xs : Nat → Int32} : am_tbl Ls xs 109 335 = some (o_sld Ls xs) := (m_109 335).trans rfl
set_option maxRecDepth 20000 in
theorem t_109_336 {Ls : Nat} {xs : Nat → Int32} : am_tbl Ls xs 109 336 = some (o_callv 81 2 8 3) := (m_109 336).trans rfl
set_option maxRecDepth 20000 in
theorem t_109_339 {Ls : Nat} {xs : Nat → Int32} : am_tbl Ls xs 109 339 = some (o_aload 2 1) := (m_109 339).trans rfl
set_option maxRecDepth 20000 in
theorem t_109_340 {Ls : Nat} {xs : Nat → Int32} : am_tbl Ls xs 109 340 = some (o_aload 0 1) := (m_109 340).trans rfl
set_option maxRecDepth 20000 in
theorem t_109_341 {Ls : Nat} {xs : Nat → Int32} : am_tbl Ls xs 109 341 = some (o_iload 3 1) := (m_109 341).trans rfl
set_option maxRecDepth 20000 in
theorem t_109_342 {Ls : Nat} {xs : Nat → Int32} : am_tbl Ls xs 109 342 = some (o_push (.int 1) 1) := (m_109 342).trans rfl
set_option maxRecDepth 20000 in
theorem t_109_343 {Ls : Nat} {xs : Nat → Int32} : am_tbl Ls xs 109 343 = some (o_ibin (fun x y => x + y)) := (m_109 343).trans rfl
set_option maxRecDepth 20000 in
theorem t_109_344 {Ls : Nat} {xs : Nat → Int32} : am_tbl Ls xs 109 344 = some (o_sld Ls xs) := (m_109 344).trans rfl
set_option maxRecDepth 20000 in
theorem t_109_345 {Ls : Nat} {xs : Nat → Int32} : am_tbl Ls xs 109 345 = some (o_aload 0 1) := (m_109 345).trans rfl
set_option maxRecDepth 20000 in
theorem t_109_346 {Ls : Nat} {xs : Nat → Int32} : am_tbl Ls xs 109 346 = some (o_iload 3 1) := (m_109 346).trans rfl
set_option maxRecDepth 20000 in
theorem t_109_347 {Ls : Nat} {xs : Nat → Int32} : am_tbl Ls xs 109 347 = some (o_push (.int 2) 1) := (m_109 347).trans rfl
set_option maxRecDepth 20000 in
theorem t_109_348 {Ls : Nat} {xs : Nat → Int32} : am_tbl Ls xs 109 348 = some (o_ibin (fun x y => x + y)) := (m_109 348).trans rfl
set_option maxRecDepth 20000 in
theorem t_109_349 {Ls : Nat} {xs : Nat → Int32} : am_tbl Ls xs 109 349 = some (o_sld Ls xs) := (m_109 349).trans rfl
set_option maxRecDepth 20000 in
theorem t_109_350 {Ls : Nat} {xs : Nat → Int32} : am_tbl Ls xs 109 350 = some (o_callv 40 2 9 3) := (m_109 350).trans rfl
set_option maxRecDepth 20000 in
theorem t_109_353 {Ls : Nat} {xs : Nat → Int32} : am_tbl Ls xs 109 353 = some (o_icmp (fun x y => decide (x = y)) 1060) := (m_109 353).trans rfl
set_option maxRecDepth 20000 in
theorem t_109_356 {Ls : Nat} {xs : Nat → Int32} : am_tbl Ls xs 109 356 = some (o_push (.int 0) 1) := (m_109 356).trans rfl
set_option maxRecDepth 20000 in
theorem t_109_357 {Ls : Nat} {xs : Nat → Int32} : am_tbl Ls xs 109 357 = some (o_zret) := (m_109 357).trans rfl
set_option maxRecDepth 20000 in
theorem t_109_358 {Ls : Nat} {xs : Nat → Int32} : am_tbl Ls xs 109 358 = some (o_aload 1 1) := (m_109 358).trans rfl
set_option maxRecDepth 20000 in
theorem t_109_359 {Ls : Nat} {xs : Nat → Int32} : am_tbl Ls xs 109 359 = some (o_aload 0 1) := (m_109 359).trans rfl
set_option maxRecDepth 20000 in
theorem t_109_360 {Ls : Nat} {xs : Nat → Int32} : am_tbl Ls xs 109 360 = some (o_iload 3 1) := (m_109 360).trans rfl
set_option maxRecDepth 20000 in
theorem t_109_361 {Ls : Nat} {xs : Nat → Int32} : am_tbl Ls xs 109 361 = some (o_push (.int 1) 1) := (m_109 361).trans rfl
set_option maxRecDepth 20000 in
theorem t_109_362 {Ls : Nat} {xs : Nat → Int32} : am_tbl Ls xs 109 362 = some (o_ibin (fun x y => x + y)) := (m_109 362).trans rfl
set_option maxRecDepth 20000 in
theorem t_109_363 {Ls : Nat} {xs : Nat → Int32} : am_tbl Ls xs 109 363 = some (o_sld Ls xs) := (m_109 363).trans rfl
set_option maxRecDepth 20000 in
theorem t_109_364 {Ls : Nat} {xs : Nat → Int32} : am_tbl Ls xs 109 364 = some (o_aload 0 1) := (m_109 364).trans rfl
set_option maxRecDepth 20000 in
theorem t_109_365 {Ls : Nat} {xs : Nat → Int32} : am_tbl Ls xs 109 365 = some (o_iload 3 1) := (m_109 365).trans rfl
set_option maxRecDepth 20000 in
theorem t_109_366 {Ls : Nat} {xs : Nat → Int32} : am_tbl Ls xs 109 366 = some (o_push (.int 2) 1) := (m_109 366).trans rfl
set_option maxRecDepth 20000 in
theorem t_109_367 {Ls : Nat} {xs : Nat → Int32} : am_tbl Ls xs 109 367 = some (o_ibin (fun x y => x + y)) := (m_109 367).trans rfl
set_option maxRecDepth 20000 in
theorem t_109_368 {Ls : Nat} {xs : Nat → Int32} : am_tbl Ls xs 109 368 = some (o_sld Ls xs) := (m_109 368).trans rfl
set_option maxRecDepth 20000 in
theorem t_109_369 {Ls : Nat} {xs : Nat → Int32} : am_tbl Ls xs 109 369 = some (o_callv 82 2 8 3) := (m_109 369).trans rfl
set_option maxRecDepth 20000 in
theorem t_109_372 {Ls : Nat} {xs : Nat → Int32} : am_tbl Ls xs 109 372 = some (o_aload 2 1) := (m_109 372).trans rfl
set_option maxRecDepth 20000 in
theorem t_109_373 {Ls : Nat} {xs : Nat → Int32} : am_tbl Ls xs 109 373 = some (o_aload 0 1) := (m_109 373).trans rfl
set_option maxRecDepth 20000 in
theorem t_109_374 {Ls : Nat} {xs : Nat → Int32} : am_tbl Ls xs 109 374 = some (o_iload 3 1) := (m_109 374).trans rfl
set_option maxRecDepth 20000 in
theorem t_109_375 {Ls : Nat} {xs : Nat → Int32} : am_tbl Ls xs 109 375 = some (o_push (.int 1) 1) := (m_109 375).trans rfl
set_option maxRecDepth 20000 in
theorem t_109_376 {Ls : Nat} {xs : Nat → Int32} : am_tbl Ls xs 109 376 = some (o_ibin (fun x y => x + y)) := (m_109 376).trans rfl
set_option maxRecDepth 20000 in
theorem t_109_377 {Ls : Nat} {xs : Nat → Int32} : am_tbl Ls xs 109 377 = some (o_sld Ls xs) := (m_109 377).trans rfl
set_option maxRecDepth 20000 in
theorem t_109_378 {Ls : Nat} {xs : Nat → Int32} : am_tbl Ls xs 109 378 = some (o_aload 0 1) := (m_109 378).trans rfl
set_option maxRecDepth 20000 in
theorem t_109_379 {Ls : Nat} {xs : Nat → Int32} : am_tbl Ls xs 109 379 = some (o_iload 3 1) := (m_109 379).trans rfl
set_option maxRecDepth 20000 in
theorem t_109_380 {Ls : Nat} {xs : Nat → Int32} : am_tbl Ls xs 109 380 = some (o_push (.int 2) 1) := (m_109 380).trans rfl
set_option maxRecDepth 20000 in
theorem t_109_381 {Ls : Nat} {xs : Nat → Int32} : am_tbl Ls xs 109 381 = some (o_ibin (fun x y => x + y)) := (m_109 381).trans rfl
set_option maxRecDepth 20000 in
theorem t_109_382 {Ls : Nat} {xs : Nat → Int32} : am_tbl Ls xs 109 382 = some (o_sld Ls xs) := (m_109 382).trans rfl
set_option maxRecDepth 20000 in
theorem t_109_383 {Ls : Nat} {xs : Nat → Int32} : am_tbl Ls xs 109 383 = some (o_callv 41 2 9 3) := (m_109 383).trans rfl
set_option maxRecDepth 20000 in
theorem t_109_386 {Ls : Nat} {xs : Nat → Int32} : am_tbl Ls xs 109 386 = some (o_icmp (fun x y => decide (x = y)) 1060) := (m_109 386).trans rfl
set_option maxRecDepth 20000 in
theorem t_109_389 {Ls : Nat} {xs : Nat → Int32} : am_tbl Ls xs 109 389 = some (o_push (.int 0) 1) := (m_109 389).trans rfl
set_option maxRecDepth 20000 in
theorem t_109_390 {Ls : Nat} {xs : Nat → Int32} : am_tbl Ls xs 109 390 = some (o_zret) := (m_109 390).trans rfl
set_option maxRecDepth 20000 in
theorem t_109_391 {Ls : Nat} {xs : Nat → Int32} : am_tbl Ls xs 109 391 = some (o_aload 1 1) := (m_109 391).trans rfl
set_option maxRecDepth 20000 in
theorem t_109_392 {Ls : Nat} {xs : Nat → Int32} : am_tbl Ls xs 109 392 = some (o_aload 0 1) := (m_109 392).trans rfl
set_option maxRecDepth 20000 in
theorem t_109_393 {Ls : Nat} {xs : Nat → Int32} : am_tbl Ls xs 109 393 = some (o_iload 3 1) := (m_109 393).trans rfl
set_option maxRecDepth 20000 in
theorem t_109_394 {Ls : Nat} {xs : Nat → Int32} : am_tbl Ls xs 109 394 = some (o_push (.int 1) 1) := (m_109 394).trans rfl
set_option maxRecDepth 20000 in
theorem t_109_395 {Ls : Nat} {xs : Nat → Int32} : am_tbl Ls xs 109 395 = some (o_ibin (fun x y => x + y)) := (m_109 395).trans rfl
set_option maxRecDepth 20000 in
theorem t_109_396 {Ls : Nat} {xs : Nat → Int32} : am_tbl Ls xs 109 396 = some (o_sld Ls xs) := (m_109 396).trans rfl
set_option maxRecDepth 20000 in
theorem t_109_397 {Ls : Nat} {xs : Nat → Int32} : am_tbl Ls xs 109 397 = some (o_aload 0 1) := (m_109 397).trans rfl
set_option maxRecDepth 20000 in
theorem t_109_398 {Ls : Nat} {xs : Nat → Int32} : am_tbl Ls xs 109 398 = some (o_iload 3 1) := (m_109 398).trans rfl
set_option maxRecDepth 20000 in
theorem t_109_399 {Ls : Nat} {xs : Nat → Int32} : am_tbl Ls xs 109 399 = some (o_push (.int 2) 1) := (m_109 399).trans rfl
set_option maxRecDepth 20000 in
theorem t_109_400 {Ls : Nat} {xs : Nat → Int32} : am_tbl Ls xs 109 400 = some (o_ibin (fun x y => x + y)) := (m_109 400).trans rfl
set_option maxRecDepth 20000 in
theorem t_109_401 {Ls : Nat} {xs : Nat → Int32} : am_tbl Ls xs 109 401 = some (o_sld Ls xs) := (m_109 401).trans rfl
set_option maxRecDepth 20000 in
theorem t_109_402 {Ls : Nat} {xs : Nat → Int32} : am_tbl Ls xs 109 402 = some (o_aload 0 1) := (m_109 402).trans rfl
set_option maxRecDepth 20000 in
theorem t_109_403 {Ls : Nat} {xs : Nat → Int32} : am_tbl Ls xs 109 403 = some (o_iload 3 1) := (m_109 403).trans rfl
set_option maxRecDepth 20000 in
theorem t_109_404 {Ls : Nat} {xs : Nat → Int32} : am_tbl Ls xs 109 404 = some (o_push (.int 3) 1) := (m_109 404).trans rfl
set_option maxRecDepth 20000 in
theorem t_109_405 {Ls : Nat} {xs : Nat → Int32} : am_tbl Ls xs 109 405 = some (o_ibin (fun x y => x + y)) := (m_109 405).trans rfl
set_option maxRecDepth 20000 in
theorem t_109_406 {Ls : Nat} {xs : Nat → Int32} : am_tbl Ls xs 109 406 = some (o_sld Ls xs) := (m_109 406).trans rfl
set_option maxRecDepth 20000 in
theorem t_109_407 {Ls : Nat} {xs : Nat → Int32} : am_tbl Ls xs 109 407 = some (o_callv 83 3 8 6) := (m_109 407).trans rfl
set_option maxRecDepth 20000 in
theorem t_109_410 {Ls : Nat} {xs : Nat → Int32} : am_tbl Ls xs 109 410 = some (o_aload 2 1) := (m_109 410).trans rfl
set_option maxRecDepth 20000 in
theorem t_109_411 {Ls : Nat} {xs : Nat → Int32} : am_tbl Ls xs 109 411 = some (o_aload 0 1) := (m_109 411).trans rfl
set_option maxRecDepth 20000 in
theorem t_109_412 {Ls : Nat} {xs : Nat → Int32} : am_tbl Ls xs 109 412 = some (o_iload 3 1) := (m_109 412).trans rfl
set_option maxRecDepth 20000 in
theorem t_109_413 {Ls : Nat} {xs : Nat → Int32} : am_tbl Ls xs 109 413 = some (o_push (.int 1) 1) := (m_109 413).trans rfl
set_option maxRecDepth 20000 in
theorem t_109_414 {Ls : Nat} {xs : Nat → Int32} : am_tbl Ls xs 109 414 = some (o_ibin (fun x y => x + y)) := (m_109 414).trans rfl
set_option maxRecDepth 20000 in
theorem t_109_415 {Ls : Nat} {xs : Nat → Int32} : am_tbl Ls xs 109 415 = some (o_sld Ls xs) := (m_109 415).trans rfl
set_option maxRecDepth 20000 in
theorem t_109_416 {Ls : Nat} {xs : Nat → Int32} : am_tbl Ls xs 109 416 = some (o_aload 0 1) := (m_109 416).trans rfl
set_option maxRecDepth 20000 in
theorem t_109_417 {Ls : Nat} {xs : Nat → Int32} : am_tbl Ls xs 109 417 = some (o_iload 3 1) := (m_109 417).trans rfl
set_option maxRecDepth 20000 in
theorem t_109_418 {Ls : Nat} {xs : Nat → Int32} : am_tbl Ls xs 109 418 = some (o_push (.int 2) 1) := (m_109 418).trans rfl
set_option maxRecDepth 20000 in
theorem t_109_419 {Ls : Nat} {xs : Nat → Int32} : am_tbl Ls xs 109 419 = some (o_ibin (fun x y => x + y)) := (m_109 419).trans rfl
set_option maxRecDepth 20000 in
theorem t_109_420 {Ls : Nat} {xs : Nat → Int32} : am_tbl Ls xs 109 420 = some (o_sld Ls xs) := (m_109 420).trans rfl
set_option maxRecDepth 20000 in
theorem t_109_421 {Ls : Nat} {xs : Nat → Int32} : am_tbl Ls xs 109 421 = some (o_aload 0 1) := (m_109 421).trans rfl
set_option maxRecDepth 20000 in
theorem t_109_422 {Ls : Nat} {xs : Nat → Int32} : am_tbl Ls xs 109 422 = some (o_iload 3 1) := (m_109 422).trans rfl
set_option maxRecDepth 20000 in
theorem t_109_423 {Ls : Nat} {xs : Nat → Int32} : am_tbl Ls xs 109 423 = some (o_push (.int 3) 1) := (m_109 423).trans rfl
set_option maxRecDepth 20000 in
theorem t_109_424 {Ls : Nat} {xs : Nat → Int32} : am_tbl Ls xs 109 424 = some (o_ibin (fun x y => x + y)) := (m_109 424).trans rfl
set_option maxRecDepth 20000 in
theorem t_109_425 {Ls : Nat} {xs : Nat → Int32} : am_tbl Ls xs 109 425 = some (o_sld Ls xs) := (m_109 425).trans rfl
set_option maxRecDepth 20000 in
theorem t_109_426 {Ls : Nat} {xs : Nat → Int32} : am_tbl Ls xs 109 426 = some (o_callv 42 3 9 5) := (m_109 426).trans rfl
set_option maxRecDepth 20000 in
theorem t_109_429 {Ls : Nat} {xs : Nat → Int32} : am_tbl Ls xs 109 429 = some (o_icmp (fun x y => decide (x = y)) 1060) := (m_109 429).trans rfl
set_option maxRecDepth 20000 in
theorem t_109_432 {Ls : Nat} {xs : Nat → Int32} : am_tbl Ls xs 109 432 = some (o_push (.int 0) 1) := (m_109 432).trans rfl
set_option maxRecDepth 20000 in
theorem t_109_433 {Ls : Nat} {xs : Nat → Int32} : am_tbl Ls xs 109 433 = some (o_zret) := (m_109 433).trans rfl
set_option maxRecDepth 20000 in
theorem t_109_434 {Ls : Nat} {xs : Nat → Int32} : am_tbl Ls xs 109 434 = some (o_aload 1 1) := (m_109 434).trans rfl
set_option maxRecDepth 20000 in
theorem t_109_435 {Ls : Nat} {xs : Nat → Int32} : am_tbl Ls xs 109 435 = some (o_aload 0 1) := (m_109 435).trans rfl
set_option maxRecDepth 20000 in
theorem t_109_436 {Ls : Nat} {xs : Nat → Int32} : am_tbl Ls xs 109 436 = some (o_iload 3 1) := (m_109 436).trans rfl
set_option maxRecDepth 20000 in
theorem t_109_437 {Ls : Nat} {xs : Nat → Int32} : am_tbl Ls xs 109 437 = some (o_push (.int 1) 1) := (m_109 437).trans rfl
set_option maxRecDepth 20000 in
theorem t_109_438 {Ls : Nat} {xs : Nat → Int32} : am_tbl Ls xs 109 438 = some (o_ibin (fun x y => x + y)) := (m_109 438).trans rfl
set_option maxRecDepth 20000 in
theorem t_109_439 {Ls : Nat} {xs : Nat → Int32} : am_tbl Ls xs 109 439 = some (o_sld Ls xs) := (m_109 439).trans rfl
set_option maxRecDepth 20000 in
theorem t_109_440 {Ls : Nat} {xs : Nat → Int32} : am_tbl Ls xs 109 440 = some (o_aload 0 1) := (m_109 440).trans rfl
set_option maxRecDepth 20000 in
theorem t_109_441 {Ls : Nat} {xs : Nat → Int32} : am_tbl Ls xs 109 441 = some (o_iload 3 1) := (m_109 441).trans rfl
set_option maxRecDepth 20000 in
theorem t_109_442 {Ls : Nat} {xs : Nat → Int32} : am_tbl Ls xs 109 442 = some (o_push (.int 2) 1) := (m_109 442).trans rfl
set_option maxRecDepth 20000 in
theorem t_109_443 {Ls : Nat} {xs : Nat → Int32} : am_tbl Ls xs 109 443 = some (o_ibin (fun x y => x + y)) := (m_109 443).trans rfl
set_option maxRecDepth 20000 in
theorem t_109_444 {Ls : Nat} {xs : Nat → Int32} : am_tbl Ls xs 109 444 = some (o_sld Ls xs) := (m_109 444).trans rfl
set_option maxRecDepth 20000 in
theorem t_109_445 {Ls : Nat} {xs : Nat → Int32} : am_tbl Ls xs 109 445 = some (o_if (fun x => decide (x = 0)) 452) := (m_109 445).trans rfl
set_option maxRecDepth 20000 in
theorem t_109_448 {Ls : Nat} {xs : Nat → Int32} : am_tbl Ls xs 109 448 = some (o_push (.int 1) 1) := (m_109 448).trans rfl
set_option maxRecDepth 20000 in
theorem t_109_449 {Ls : Nat} {xs : Nat → Int32} : am_tbl Ls xs 109 449 = some (o_goto 453) := (m_109 449).trans rfl
set_option maxRecDepth 20000 in
theorem t_109_452 {Ls : Nat} {xs : Nat → Int32} : am_tbl Ls xs 109 452 = some (o_push (.int 0) 1) := (m_109 452).trans rfl
set_option maxRecDepth 20000 in
theorem t_109_453 {Ls : Nat} {xs : Nat → Int32} : am_tbl Ls xs 109 453 = some (o_nrm [0, 1, 2, 3] (o_callv 84 2 8 4)) := (m_109 453).trans rfl
set_option maxRecDepth 20000 in
theorem t_109_456 {Ls : Nat} {xs : Nat → Int32} : am_tbl Ls xs 109 456 = some (o_aload 2 1) := (m_109 456).trans rfl
set_option maxRecDepth 20000 in
theorem t_109_457 {Ls : Nat} {xs : Nat → Int32} : am_tbl Ls xs 109 457 = some (o_aload 0 1) := (m_109 457).trans rfl
set_option maxRecDepth 20000 in
theorem t_109_458 {Ls : Nat} {xs : Nat → Int32} : am_tbl Ls xs 109 458 = some (o_iload 3 1) := (m_109 458).trans rfl
set_option maxRecDepth 20000 in
theorem t_109_459 {Ls : Nat} {xs : Nat → Int32} : am_tbl Ls xs 109 459 = some (o_push (.int 1) 1) := (m_109 459).trans rfl
set_option maxRecDepth 20000 in
theorem t_109_460 {Ls : Nat} {xs : Nat → Int32} : am_tbl Ls xs 109 460 = some (o_ibin (fun x y => x + y)) := (m_109 460).trans rfl
set_option maxRecDepth 20000 in
theorem t_109_461 {Ls : Nat} {xs : Nat → Int32} : am_tbl Ls xs 109 461 = some (o_sld Ls xs) := (m_109 461).trans rfl
set_option maxRecDepth 20000 in
theorem t_109_462 {Ls : Nat} {xs : Nat → Int32} : am_tbl Ls xs 109 462 = some (o_aload 0 1) := (m_109 462).trans rfl
set_option maxRecDepth 20000 in
theorem t_109_463 {Ls : Nat} {xs : Nat → Int32} : am_tbl Ls xs 109 463 = some (o_iload 3 1) := (m_109 463).trans rfl
set_option maxRecDepth 20000 in
theorem t_109_464 {Ls : Nat} {xs : Nat → Int32} : am_tbl Ls xs 109 464 = some (o_push (.int 2) 1) := (m_109 464).trans rfl
set_option maxRecDepth 20000 in
theorem t_109_465 {Ls : Nat} {xs : Nat → Int32} : am_tbl Ls xs 109 465 = some (o_ibin (fun x y => x + y)) := (m_109 465).trans rfl
set_option maxRecDepth 20000 in
theorem t_109_466 {Ls : Nat} {xs : Nat → Int32} : am_tbl Ls xs 109 466 = some (o_sld Ls xs) := (m_109 466).trans rfl
set_option maxRecDepth 20000 in
theorem t_109_467 {Ls : Nat} {xs : Nat → Int32} : am_tbl Ls xs 109 467 = some (o_if (fun x => decide (x = 0)) 474) := (m_109 467).trans rfl
set_option maxRecDepth 20000 in
theorem t_109_470 {Ls : Nat} {xs : Nat → Int32} : am_tbl Ls xs 109 470 = some (o_push (.int 1) 1) := (m_109 470).trans rfl
set_option maxRecDepth 20000 in
theorem t_109_471 {Ls : Nat} {xs : Nat → Int32} : am_tbl Ls xs 109 471 = some (o_goto 475) := (m_109 471).trans rfl
set_option maxRecDepth 20000 in
theorem t_109_474 {Ls : Nat} {xs : Nat → Int32} : am_tbl Ls xs 109 474 = some (o_push (.int 0) 1) := (m_109 474).trans rfl
set_option maxRecDepth 20000 in
theorem t_109_475 {Ls : Nat} {xs : Nat → Int32} : am_tbl Ls xs 109 475 = some (o_nrm [0, 1, 2, 3] (o_callv 43 2 9 4)) := (m_109 475).trans rfl
set_option maxRecDepth 20000 in
theorem t_109_478 {Ls : Nat} {xs : Nat → Int32} : am_tbl Ls xs 109 478 = some (o_icmp (fun x y => decide (x = y)) 1060) := (m_109 478).trans rfl
set_option maxRecDepth 20000 in
theorem t_109_481 {Ls : Nat} {xs : Nat → Int32} : am_tbl Ls xs 109 481 = some (o_push (.int 0) 1) := (m_109 481).trans rfl
set_option maxRecDepth 20000 in
theorem t_109_482 {Ls : Nat} {xs : Nat → Int32} : am_tbl Ls xs 109 482 = some (o_zret) := (m_109 482).trans rfl
set_option maxRecDepth 20000 in
theorem t_109_483 {Ls : Nat} {xs : Nat → Int32} : am_tbl Ls xs 109 483 = some (o_aload 1 1) := (m_109 483).trans rfl
set_option maxRecDepth 20000 in
theorem t_109_484 {Ls : Nat} {xs : Nat → Int32} : am_tbl Ls xs 109 484 = some (o_aload 0 1) := (m_109 484).trans rfl
set_option maxRecDepth 20000 in
theorem t_109_485 {Ls : Nat} {xs : Nat → Int32} : am_tbl Ls xs 109 485 = some (o_iload 3 1) := (m_109 485).trans rfl
set_option maxRecDepth 20000 in
theorem t_109_486 {Ls : Nat} {xs : Nat → Int32} : am_tbl Ls xs 109 486 = some (o_push (.int 1) 1) := (m_109 486).trans rfl
set_option maxRecDepth 20000 in
theorem t_109_487 {Ls : Nat} {xs : Nat → Int32} : am_tbl Ls xs 109 487 = some (o_ibin (fun x y => x + y)) := (m_109 487).trans rfl
set_option maxRecDepth 20000 in
theorem t_109_488 {Ls : Nat} {xs : Nat → Int32} : am_tbl Ls xs 109 488 = some (o_sld Ls xs) := (m_109 488).trans rfl
set_option maxRecDepth 20000 in
theorem t_109_489 {Ls : Nat} {xs : Nat → Int32} : am_tbl Ls xs 109 489 = some (o_callv 85 1 8 3) := (m_109 489).trans rfl
set_option maxRecDepth 20000 in
theorem t_109_492 {Ls : Nat} {xs : Nat → Int32} : am_tbl Ls xs 109 492 = some (o_aload 2 1) := (m_109 492).trans rfl
set_option maxRecDepth 20000 in
theorem t_109_493 {Ls : Nat} {xs : Nat → Int32} : am_tbl Ls xs 109 493 = some (o_aload 0 1) := (m_109 493).trans rfl
set_option maxRecDepth 20000 in
theorem t_109_494 {Ls : Nat} {xs : Nat → Int32} : am_tbl Ls xs 109 494 = some (o_iload 3 1) := (m_109 494).trans rfl
set_option maxRecDepth 20000 in
theorem t_109_495 {Ls : Nat} {xs : Nat → Int32} : am_tbl Ls xs 109 495 = some (o_push (.int 1) 1) := (m_109 495).trans rfl
set_option maxRecDepth 20000 in
theorem t_109_496 {Ls : Nat} {xs : Nat → Int32} : am_tbl Ls xs 109 496 = some (o_ibin (fun x y => x + y)) := (m_109 496).trans rfl
set_option maxRecDepth 20000 in
theorem t_109_497 {Ls : Nat} {xs : Nat → Int32} : am_tbl Ls xs 109 497 = some (o_sld Ls xs) := (m_109 497).trans rfl
set_option maxRecDepth 20000 in
theorem t_109_498 {Ls : Nat} {xs : Nat → Int32} : am_tbl Ls xs 109 498 = some (o_callv 44 1 9 3) := (m_109 498).trans rfl
set_option maxRecDepth 20000 in
theorem t_109_501 {Ls : Nat} {xs : Nat → Int32} : am_tbl Ls xs 109 501 = some (o_icmp (fun x y => decide (x = y)) 1060) := (m_109 501).trans rfl
set_option maxRecDepth 20000 in
theorem t_109_504 {Ls : Nat} {xs : Nat → Int32} : am_tbl Ls xs 109 504 = some (o_push (.int 0) 1) := (m_109 504).trans rfl
set_option maxRecDepth 20000 in
theorem t_109_505 {Ls : Nat} {xs : Nat → Int32} : am_tbl Ls xs 109 505 = some (o_zret) := (m_109 505).trans rfl
set_option maxRecDepth 20000 in
theorem t_109_506 {Ls : Nat} {xs : Nat → Int32} : am_tbl Ls xs 109 506 = some (o_aload 1 1) := (m_109 506).trans rfl
set_option maxRecDepth 20000 in
theorem t_109_507 {Ls : Nat} {xs : Nat → Int32} : am_tbl Ls xs 109 507 = some (o_aload 0 1) := (m_109 507).trans rfl
set_option maxRecDepth 20000 in
theorem t_109_508 {Ls : Nat} {xs : Nat → Int32} : am_tbl Ls xs 109 508 = some (o_iload 3 1) := (m_109 508).trans rfl
set_option maxRecDepth 20000 in
theorem t_109_509 {Ls : Nat} {xs : Nat → Int32} : am_tbl Ls xs 109 509 = some (o_push (.int 1) 1) := (m_109 509).trans rfl
set_option maxRecDepth 20000 in
theorem t_109_510 {Ls : Nat} {xs : Nat → Int32} : am_tbl Ls xs 109 510 = some (o_ibin (fun x y => x + y)) := (m_109 510).trans rfl
set_option maxRecDepth 20000 in
theorem t_109_511 {Ls : Nat} {xs : Nat → Int32} : am_tbl Ls xs 109 511 = some (o_sld Ls xs) := (m_109 511).trans rfl
set_option maxRecDepth 20000 in
theorem t_109_512 {Ls : Nat} {xs : Nat → Int32} : am_tbl Ls xs 109 512 = some (o_aload 0 1) := (m_109 512).trans rfl
set_option maxRecDepth 20000 in
theorem t_109_513 {Ls : Nat} {xs : Nat → Int32} : am_tbl Ls xs 109 513 = some (o_iload 3 1) := (m_109 513).trans rfl
set_option maxRecDepth 20000 in
theorem t_109_514 {Ls : Nat} {xs : Nat → Int32} : am_tbl Ls xs 109 514 = some (o_push (.int 2) 1) := (m_109 514).trans rfl
set_option maxRecDepth 20000 in
theorem t_109_515 {Ls : Nat} {xs : Nat → Int32} : am_tbl Ls xs 109 515 = some (o_ibin (fun x y => x + y)) := (m_109 515).trans rfl
set_option maxRecDepth 20000 in
theorem t_109_516 {Ls : Nat} {xs : Nat → Int32} : am_tbl Ls xs 109 516 = some (o_sld Ls xs) := (m_109 516).trans rfl
set_option maxRecDepth 20000 in
theorem t_109_517 {Ls : Nat} {xs : Nat → Int32} : am_tbl Ls xs 109 517 = some (o_aload 0 1) := (m_109 517).trans rfl
set_option maxRecDepth 20000 in
theorem t_109_518 {Ls : Nat} {xs : Nat → Int32} : am_tbl Ls xs 109 518 = some (o_iload 3 1) := (m_109 518).trans rfl
set_option maxRecDepth 20000 in
theorem t_109_519 {Ls : Nat} {xs : Nat → Int32} : am_tbl Ls xs 109 519 = some (o_push (.int 3) 1) := (m_109 519).trans rfl
set_option maxRecDepth 20000 in
theorem t_109_520 {Ls : Nat} {xs : Nat → Int32} : am_tbl Ls xs 109 520 = some (o_ibin (fun x y => x + y)) := (m_109 520).trans rfl
set_option maxRecDepth 20000 in
theorem t_109_521 {Ls : Nat} {xs : Nat → Int32} : am_tbl Ls xs 109 521 = some (o_sld Ls xs) := (m_109 521).trans rfl
set_option maxRecDepth 20000 in
theorem t_109_522 {Ls : Nat} {xs : Nat → Int32} : am_tbl Ls xs 109 522 = some (o_callv 86 3 8 6) := (m_109 522).trans rfl
set_option maxRecDepth 20000 in
theorem t_109_525 {Ls : Nat} {xs : Nat → Int32} : am_tbl Ls xs 109 525 = some (o_aload 2 1) := (m_109 525).trans rfl
set_option maxRecDepth 20000 in
theorem t_109_526 {Ls : Nat} {xs : Nat → Int32} : am_tbl Ls xs 109 526 = some (o_aload 0 1) := (m_109 526).trans rfl
set_option maxRecDepth 20000 in
theorem t_109_527 {Ls : Nat} {xs : Nat → Int32} : am_tbl Ls xs 109 527 = some (o_iload 3 1) := (m_109 527).trans rfl
set_option maxRecDepth 20000 in
theorem t_109_528 {Ls : Nat} {xs : Nat → Int32} : am_tbl Ls xs 109 528 = some (o_push (.int 1) 1) := (m_109 528).trans rfl
set_option maxRecDepth 20000 in
theorem t_109_529 {Ls : Nat} {xs : Nat → Int32} : am_tbl Ls xs 109 529 = some (o_ibin (fun x y => x + y)) := (m_109 529).trans rfl
set_option maxRecDepth 20000 in
theorem t_109_530 {Ls : Nat} {xs : Nat → Int32} : am_tbl Ls xs 109 530 = some (o_sld Ls xs) := (m_109 530).trans rfl
set_option maxRecDepth 20000 in
theorem t_109_531 {Ls : Nat} {xs : Nat → Int32} : am_tbl Ls xs 109 531 = some (o_aload 0 1) := (m_109 531).trans rfl
set_option maxRecDepth 20000 in
theorem t_109_532 {Ls : Nat} {xs : Nat → Int32} : am_tbl Ls xs 109 532 = some (o_iload 3 1) := (m_109 532).trans rfl
set_option maxRecDepth 20000 in
theorem t_109_533 {Ls : Nat} {xs : Nat → Int32} : am_tbl Ls xs 109 533 = some (o_push (.int 2) 1) := (m_109 533).trans rfl
set_option maxRecDepth 20000 in
theorem t_109_534 {Ls : Nat} {xs : Nat → Int32} : am_tbl Ls xs 109 534 = some (o_ibin (fun x y => x + y)) := (m_109 534).trans rfl
set_option maxRecDepth 20000 in
theorem t_109_535 {Ls : Nat} {xs : Nat → Int32} : am_tbl Ls xs 109 535 = some (o_sld Ls xs) := (m_109 535).trans rfl
set_option maxRecDepth 20000 in
theorem t_109_536 {Ls : Nat} {xs : Nat → Int32} : am_tbl Ls xs 109 536 = some (o_aload 0 1) := (m_109 536).trans rfl
set_option maxRecDepth 20000 in
theorem t_109_537 {Ls : Nat} {xs : Nat → Int32} : am_tbl Ls xs 109 537 = some (o_iload 3 1) := (m_109 537).trans rfl
set_option maxRecDepth 20000 in
theorem t_109_538 {Ls : Nat} {xs : Nat → Int32} : am_tbl Ls xs 109 538 = some (o_push (.int 3) 1) := (m_109 538).trans rfl
set_option maxRecDepth 20000 in
theorem t_109_539 {Ls : Nat} {xs : Nat → Int32} : am_tbl Ls xs 109 539 = some (o_ibin (fun x y => x + y)) := (m_109 539).trans rfl
set_option maxRecDepth 20000 in
theorem t_109_540 {Ls : Nat} {xs : Nat → Int32} : am_tbl Ls xs 109 540 = some (o_sld Ls xs) := (m_109 540).trans rfl
set_option maxRecDepth 20000 in
theorem t_109_541 {Ls : Nat} {xs : Nat → Int32} : am_tbl Ls xs 109 541 = some (o_callv 46 3 9 6) := (m_109 541).trans rfl
set_option maxRecDepth 20000 in
theorem t_109_544 {Ls : Nat} {xs : Nat → Int32} : am_tbl Ls xs 109 544 = some (o_icmp (fun x y => decide (x = y)) 1060) := (m_109 544).trans rfl
set_option maxRecDepth 20000 in
theorem t_109_547 {Ls : Nat} {xs : Nat → Int32} : am_tbl Ls xs 109 547 = some (o_push (.int 0) 1) := (m_109 547).trans rfl
set_option maxRecDepth 20000 in
theorem t_109_548 {Ls : Nat} {xs : Nat → Int32} : am_tbl Ls xs 109 548 = some (o_zret) := (m_109 548).trans rfl
set_option maxRecDepth 20000 in
theorem t_109_549 {Ls : Nat} {xs : Nat → Int32} : am_tbl Ls xs 109 549 = some (o_aload 1 1) := (m_109 549).trans rfl
set_option maxRecDepth 20000 in
theorem t_109_550 {Ls : Nat} {xs : Nat → Int32} : am_tbl Ls xs 109 550 = some (o_aload 0 1) := (m_109 550).trans rfl
set_option maxRecDepth 20000 in
theorem t_109_551 {Ls : Nat} {xs : Nat → Int32} : am_tbl Ls xs 109 551 = some (o_iload 3 1) := (m_109 551).trans rfl
set_option maxRecDepth 20000 in
theorem t_109_552 {Ls : Nat} {xs : Nat → Int32} : am_tbl Ls xs 109 552 = some (o_push (.int 1) 1) := (m_109 552).trans rfl
set_option maxRecDepth 20000 in
theorem t_109_553 {Ls : Nat} {xs : Nat → Int32} : am_tbl Ls xs 109 553 = some (o_ibin (fun x y => x + y)) := (m_109 553).trans rfl
set_option maxRecDepth 20000 in
theorem t_109_554 {Ls : Nat} {xs : Nat → Int32} : am_tbl Ls xs 109 554 = some (o_sld Ls xs) := (m_109 554).trans rfl
set_option maxRecDepth 20000 in
theorem t_109_555 {Ls : Nat} {xs : Nat → Int32} : am_tbl Ls xs 109 555 = some (o_callv 87 1 8 3) := (m_109 555).trans rfl
set_option maxRecDepth 20000 in
theorem t_109_558 {Ls : Nat} {xs : Nat → Int32} : am_tbl Ls xs 109 558 = some (o_aload 2 1) := (m_109 558).trans rfl
set_option maxRecDepth 20000 in
theorem t_109_559 {Ls : Nat} {xs : Nat → Int32} : am_tbl Ls xs 109 559 = some (o_aload 0 1) := (m_109 559).trans rfl
set_option maxRecDepth 20000 in
theorem t_109_560 {Ls : Nat} {xs : Nat → Int32} : am_tbl Ls xs 109 560 = some (o_iload 3 1) := (m_109 560).trans rfl
set_option maxRecDepth 20000 in
theorem t_109_561 {Ls : Nat} {xs : Nat → Int32} : am_tbl Ls xs 109 561 = some (o_push (.int 1) 1) := (m_109 561).trans rfl
set_option maxRecDepth 20000 in
theorem t_109_562 {Ls : Nat} {xs : Nat → Int32} : am_tbl Ls xs 109 562 = some (o_ibin (fun x y => x + y)) := (m_109 562).trans rfl
set_option maxRecDepth 20000 in
theorem t_109_563 {Ls : Nat} {xs : Nat → Int32} : am_tbl Ls xs 109 563 = some (o_sld Ls xs) := (m_109 563).trans rfl
set_option maxRecDepth 20000 in
theorem t_109_564 {Ls : Nat} {xs : Nat → Int32} : am_tbl Ls xs 109 564 = some (o_callv 51 1 9 3) := (m_109 564).trans rfl
set_option maxRecDepth 20000 in
theorem t_109_567 {Ls : Nat} {xs : Nat → Int32} : am_tbl Ls xs 109 567 = some (o_icmp (fun x y => decide (x = y)) 1060) := (m_109 567).trans rfl
set_option maxRecDepth 20000 in
theorem t_109_570 {Ls : Nat} {xs : Nat → Int32} : am_tbl Ls xs 109 570 = some (o_push (.int 0) 1) := (m_109 570).trans rfl
set_option maxRecDepth 20000 in
theorem t_109_571 {Ls : Nat} {xs : Nat → Int32} : am_tbl Ls xs 109 571 = some (o_zret) := (m_109 571).trans rfl
set_option maxRecDepth 20000 in
theorem t_109_572 {Ls : Nat} {xs : Nat → Int32} : am_tbl Ls xs 109 572 = some (o_aload 1 1) := (m_109 572).trans rfl
set_option maxRecDepth 20000 in
theorem t_109_573 {Ls : Nat} {xs : Nat → Int32} : am_tbl Ls xs 109 573 = some (o_aload 0 1) := (m_109 573).trans rfl
set_option maxRecDepth 20000 in
theorem t_109_574 {Ls : Nat} {xs : Nat → Int32} : am_tbl Ls xs 109 574 = some (o_iload 3 1) := (m_109 574).trans rfl
set_option maxRecDepth 20000 in
theorem t_109_575 {Ls : Nat} {xs : Nat → Int32} : am_tbl Ls xs 109 575 = some (o_push (.int 1) 1) := (m_109 575).trans rfl
set_option maxRecDepth 20000 in
theorem t_109_576 {Ls : Nat} {xs : Nat → Int32} : am_tbl Ls xs 109 576 = some (o_ibin (fun x y => x + y)) := (m_109 576).trans rfl
set_option maxRecDepth 20000 in
theorem t_109_577 {Ls : Nat} {xs : Nat → Int32} : am_tbl Ls xs 109 577 = some (o_sld Ls xs) := (m_109 577).trans rfl
set_option maxRecDepth 20000 in
theorem t_109_578 {Ls : Nat} {xs : Nat → Int32} : am_tbl Ls xs 109 578 = some (o_aload 0 1) := (m_109 578).trans rfl
set_option maxRecDepth 20000 in
theorem t_109_579 {Ls : Nat} {xs : Nat → Int32} : am_tbl Ls xs 109 579 = some (o_iload 3 1) := (m_109 579).trans rfl
set_option maxRecDepth 20000 in
theorem t_109_580 {Ls : Nat} {xs : Nat → Int32} : am_tbl Ls xs 109 580 = some (o_push (.int 2) 1) := (m_109 580).trans rfl
set_option maxRecDepth 20000 in
theorem t_109_581 {Ls : Nat} {xs : Nat → Int32} : am_tbl Ls xs 109 581 = some (o_ibin (fun x y => x + y)) := (m_109 581).trans rfl
set_option maxRecDepth 20000 in
theorem t_109_582 {Ls : Nat} {xs : Nat → Int32} : am_tbl Ls xs 109 582 = some (o_sld Ls xs) := (m_109 582).trans rfl
set_option maxRecDepth 20000 in
theorem t_109_583 {Ls : Nat} {xs : Nat → Int32} : am_tbl Ls xs 109 583 = some (o_callv 88 2 8 3) := (m_109 583).trans rfl
set_option maxRecDepth 20000 in
theorem t_109_586 {Ls : Nat} {xs : Nat → Int32} : am_tbl Ls xs 109 586 = some (o_aload 2 1) := (m_109 586).trans rfl
set_option maxRecDepth 20000 in
theorem t_109_587 {Ls : Nat} {xs : Nat → Int32} : am_tbl Ls xs 109 587 = some (o_aload 0 1) := (m_109 587).trans rfl
set_option maxRecDepth 20000 in
theorem t_109_588 {Ls : Nat} {xs : Nat → Int32} : am_tbl Ls xs 109 588 = some (o_iload 3 1) := (m_109 588).trans rfl
set_option maxRecDepth 20000 in
theorem t_109_589 {Ls : Nat} {xs : Nat → Int32} : am_tbl Ls xs 109 589 = some (o_push (.int 1) 1) := (m_109 589).trans rfl
set_option maxRecDepth 20000 in
theorem t_109_590 {Ls : Nat} {xs : Nat → Int32} : am_tbl Ls xs 109 590 = some (o_ibin (fun x y => x + y)) := (m_109 590).trans rfl
set_option maxRecDepth 20000 in
theorem t_109_591 {Ls : Nat} {xs : Nat → Int32} : am_tbl Ls xs 109 591 = some (o_sld Ls xs) := (m_109 591).trans rfl
set_option maxRecDepth 20000 in
theorem t_109_592 {Ls : Nat} {xs : Nat → Int32} : am_tbl Ls xs 109 592 = some (o_aload 0 1) := (m_109 592).trans rfl
set_option maxRecDepth 20000 in
theorem t_109_593 {Ls : Nat} {xs : Nat → Int32} : am_tbl Ls xs 109 593 = some (o_iload 3 1) := (m_109 593).trans rfl
set_option maxRecDepth 20000 in
theorem t_109_594 {Ls : Nat} {xs : Nat → Int32} : am_tbl Ls xs 109 594 = some (o_push (.int 2) 1) := (m_109 594).trans rfl
set_option maxRecDepth 20000 in
theorem t_109_595 {Ls : Nat} {xs : Nat → Int32} : am_tbl Ls xs 109 595 = some (o_ibin (fun x y => x + y)) := (m_109 595).trans rfl
set_option maxRecDepth 20000 in
theorem t_109_596 {Ls : Nat} {xs : Nat → Int32} : am_tbl Ls xs 109 596 = some (o_sld Ls xs) := (m_109 596).trans rfl
set_option maxRecDepth 20000 in
theorem t_109_597 {Ls : Nat} {xs : Nat → Int32} : am_tbl Ls xs 109 597 = some (o_callv 52 2 9 9) := (m_109 597).trans rfl
set_option maxRecDepth 20000 in
theorem t_109_600 {Ls : Nat} {xs : Nat → Int32} : am_tbl Ls xs 109 600 = some (o_icmp (fun x y => decide (x = y)) 1060) := (m_109 600).trans rfl
set_option maxRecDepth 20000 in
theorem t_109_603 {Ls : Nat} {xs : Nat → Int32} : am_tbl Ls xs 109 603 = some (o_push (.int 0) 1) := (m_109 603).trans rfl
set_option maxRecDepth 20000 in
theorem t_109_604 {Ls : Nat} {xs : Nat → Int32} : am_tbl Ls xs 109 604 = some (o_zret) := (m_109 604).trans rfl
set_option maxRecDepth 20000 in
theorem t_109_605 {Ls : Nat} {xs : Nat → Int32} : am_tbl Ls xs 109 605 = some (o_aload 1 1) := (m_109 605).trans rfl
set_option maxRecDepth 20000 in
theorem t_109_606 {Ls : Nat} {xs : Nat → Int32} : am_tbl Ls xs 109 606 = some (o_aload 0 1) := (m_109 606).trans rfl
set_option maxRecDepth 20000 in
theorem t_109_607 {Ls : Nat} {xs : Nat → Int32} : am_tbl Ls xs 109 607 = some (o_iload 3 1) := (m_109 607).trans rfl
set_option maxRecDepth 20000 in
theorem t_109_608 {Ls : Nat} {xs : Nat → Int32} : am_tbl Ls xs 109 608 = some (o_push (.int 1) 1) := (m_109 608).trans rfl
set_option maxRecDepth 20000 in
theorem t_109_609 {Ls : Nat} {xs : Nat → Int32} : am_tbl Ls xs 109 609 = some (o_ibin (fun x y => x + y)) := (m_109 609).trans rfl
set_option maxRecDepth 20000 in
theorem t_109_610 {Ls : Nat} {xs : Nat → Int32} : am_tbl Ls xs 109 610 = some (o_sld Ls xs) := (m_109 610).trans rfl
set_option maxRecDepth 20000 in
theorem t_109_611 {Ls : Nat} {xs : Nat → Int32} : am_tbl Ls xs 109 611 = some (o_aload 0 1) := (m_109 611).trans rfl
set_option maxRecDepth 20000 in
theorem t_109_612 {Ls : Nat} {xs : Nat → Int32} : am_tbl Ls xs 109 612 = some (o_iload 3 1) := (m_109 612).trans rfl
set_option maxRecDepth 20000 in
theorem t_109_613 {Ls : Nat} {xs : Nat → Int32} : am_tbl Ls xs 109 613 = some (o_push (.int 2) 1) := (m_109 613).trans rfl
set_option maxRecDepth 20000 in
theorem t_109_614 {Ls : Nat} {xs : Nat → Int32} : am_tbl Ls xs 109 614 = some (o_ibin (fun x y => x + y)) := (m_109 614).trans rfl
set_option maxRecDepth 20000 in
theorem t_109_615 {Ls : Nat} {xs : Nat → Int32} : am_tbl Ls xs 109 615 = some (o_sld Ls xs) := (m_109 615).trans rfl
set_option maxRecDepth 20000 in
theorem t_109_616 {Ls : Nat} {xs : Nat → Int32} : am_tbl Ls xs 109 616 = some (o_aload 0 1) := (m_109 616).trans rfl
set_option maxRecDepth 20000 in
theorem t_109_617 {Ls : Nat} {xs : Nat → Int32} : am_tbl Ls xs 109 617 = some (o_iload 3 1) := (m_109 617).trans rfl
set_option maxRecDepth 20000 in
theorem t_109_618 {Ls : Nat} {xs : Nat → Int32} : am_tbl Ls xs 109 618 = some (o_push (.int 3) 1) := (m_109 618).trans rfl
set_option maxRecDepth 20000 in
theorem t_109_619 {Ls : Nat} {xs : Nat → Int32} : am_tbl Ls xs 109 619 = some (o_ibin (fun x y => x + y)) := (m_109 619).trans rfl
set_option maxRecDepth 20000 in
theorem t_109_620 {Ls : Nat} {xs : Nat → Int32} : am_tbl Ls xs 109 620 = some (o_sld Ls xs) := (m_109 620).trans rfl
set_option maxRecDepth 20000 in
theorem t_109_621 {Ls : Nat} {xs : Nat → Int32} : am_tbl Ls xs 109 621 = some (o_aload 0 1) := (m_109 621).trans rfl
set_option maxRecDepth 20000 in
theorem t_109_622 {Ls : Nat} {xs : Nat → Int32} : am_tbl Ls xs 109 622 = some (o_iload 3 1) := (m_109 622).trans rfl
set_option maxRecDepth 20000 in
theorem t_109_623 {Ls : Nat} {xs : Nat → Int32} : am_tbl Ls xs 109 623 = some (o_push (.int 4) 1) := (m_109 623).trans rfl
set_option maxRecDepth 20000 in
theorem t_109_624 {Ls : Nat} {xs : Nat → Int32} : am_tbl Ls xs 109 624 = some (o_ibin (fun x y => x + y)) := (m_109 624).trans rfl
set_option maxRecDepth 20000 in
theorem t_109_625 {Ls : Nat} {xs : Nat → Int32} : am_tbl Ls xs 109 625 = some (o_sld Ls xs) := (m_109 625).trans rfl
set_option maxRecDepth 20000 in
theorem t_109_626 {Ls : Nat} {xs : Nat → Int32} : am_tbl Ls xs 109 626 = some (o_callv 89 4 8 6) := (m_109 626).trans rfl
set_option maxRecDepth 20000 in
theorem t_109_629 {Ls : Nat} {xs : Nat → Int32} : am_tbl Ls xs 109 629 = some (o_aload 2 1) := (m_109 629).trans rfl
set_option maxRecDepth 20000 in
theorem t_109_630 {Ls : Nat} {xs : Nat → Int32} : am_tbl Ls xs 109 630 = some (o_aload 0 1) := (m_109 630).trans rfl
set_option maxRecDepth 20000 in
theorem t_109_631 {Ls : Nat} {xs : Nat → Int32} : am_tbl Ls xs 109 631 = some (o_iload 3 1) := (m_109 631).trans rfl
set_option maxRecDepth 20000 in
theorem t_109_632 {Ls : Nat} {xs : Nat → Int32} : am_tbl Ls xs 109 632 = some (o_push (.int 1) 1) := (m_109 632).trans rfl
set_option maxRecDepth 20000 in
theorem t_109_633 {Ls : Nat} {xs : Nat → Int32} : am_tbl Ls xs 109 633 = some (o_ibin (fun x y => x + y)) := (m_109 633).trans rfl
set_option maxRecDepth 20000 in
theorem t_109_634 {Ls : Nat} {xs : Nat → Int32} : am_tbl Ls xs 109 634 = some (o_sld Ls xs) := (m_109 634).trans rfl
set_option maxRecDepth 20000 in
theorem t_109_635 {Ls : Nat} {xs : Nat → Int32} : am_tbl Ls xs 109 635 = some (o_aload 0 1) := (m_109 635).trans rfl
set_option maxRecDepth 20000 in
theorem t_109_636 {Ls : Nat} {xs : Nat → Int32} : am_tbl Ls xs 109 636 = some (o_iload 3 1) := (m_109 636).trans rfl
set_option maxRecDepth 20000 in
theorem t_109_637 {Ls : Nat} {xs : Nat → Int32} : am_tbl Ls xs 109 637 = some (o_push (.int 2) 1) := (m_109 637).trans rfl
set_option maxRecDepth 20000 in
theorem t_109_638 {Ls : Nat} {xs : Nat → Int32} : am_tbl Ls xs 109 638 = some (o_ibin (fun x y => x + y)) := (m_109 638).trans rfl
set_option maxRecDepth 20000 in
theorem t_109_639 {Ls : Nat} {xs : Nat → Int32} : am_tbl Ls xs 109 639 = some (o_sld Ls xs) := (m_109 639).trans rfl
set_option maxRecDepth 20000 in
theorem t_109_640 {Ls : Nat} {xs : Nat → Int32} : am_tbl Ls xs 109 640 = some (o_aload 0 1) := (m_109 640).trans rfl
set_option maxRecDepth 20000 in
theorem t_109_641 {Ls : Nat} {xs : Nat → Int32} : am_tbl Ls xs 109 641 = some (o_iload 3 1) := (m_109 641).trans rfl
set_option maxRecDepth 20000 in
theorem t_109_642 {Ls : Nat} {xs : Nat → Int32} : am_tbl Ls xs 109 642 = some (o_push (.int 3) 1) := (m_109 642).trans rfl
set_option maxRecDepth 20000 in
theorem t_109_643 {Ls : Nat} {xs : Nat → Int32} : am_tbl Ls xs 109 643 = some (o_ibin (fun x y => x + y)) := (m_109 643).trans rfl
set_option maxRecDepth 20000 in
theorem t_109_644 {Ls : Nat} {xs : Nat → Int32} : am_tbl Ls xs 109 644 = some (o_sld Ls xs) := (m_109 644).trans rfl
set_option maxRecDepth 20000 in
theorem t_109_645 {Ls : Nat} {xs : Nat → Int32} : am_tbl Ls xs 109 645 = some (o_aload 0 1) := (m_109 645).trans rfl
set_option maxRecDepth 20000 in
theorem t_109_646 {Ls : Nat} {xs : Nat → Int32} : am_tbl Ls xs 109 646 = some (o_iload 3 1) := (m_109 646).trans rfl
set_option maxRecDepth 20000 in
theorem t_109_647 {Ls : Nat} {xs : Nat → Int32} : am_tbl Ls xs 109 647 = some (o_push (.int 4) 1) := (m_109 647).trans rfl
set_option maxRecDepth 20000 in
theorem t_109_648 {Ls : Nat} {xs : Nat → Int32} : am_tbl Ls xs 109 648 = some (o_ibin (fun x y => x + y)) := (m_109 648).trans rfl
set_option maxRecDepth 20000 in
theorem t_109_649 {Ls : Nat} {xs : Nat → Int32} : am_tbl Ls xs 109 649 = some (o_sld Ls xs) := (m_109 649).trans rfl
set_option maxRecDepth 20000 in
theorem t_109_650 {Ls : Nat} {xs : Nat → Int32} : am_tbl Ls xs 109 650 = some (o_callv 53 4 9 5) := (m_109 650).trans rfl
set_option maxRecDepth 20000 in
theorem t_109_653 {Ls : Nat} {xs : Nat → Int32} : am_tbl Ls xs 109 653 = some (o_icmp (fun x y => decide (x = y)) 1060) := (m_109 653).trans rfl
set_option maxRecDepth 20000 in
theorem t_109_656 {Ls : Nat} {xs : Nat → Int32} : am_tbl Ls xs 109 656 = some (o_push (.int 0) 1) := (m_109 656).trans rfl
set_option maxRecDepth 20000 in
theorem t_109_657 {Ls : Nat} {xs : Nat → Int32} : am_tbl Ls xs 109 657 = some (o_zret) := (m_109 657).trans rfl
set_option maxRecDepth 20000 in
theorem t_109_658 {Ls : Nat} {xs : Nat → Int32} : am_tbl Ls xs 109 658 = some (o_aload 1 1) := (m_109 658).trans rfl
set_option maxRecDepth 20000 in
theorem t_109_659 {Ls : Nat} {xs : Nat → Int32} : am_tbl Ls xs 109 659 = some (o_aload 0 1) := (m_109 659).trans rfl
set_option maxRecDepth 20000 in
theorem t_109_660 {Ls : Nat} {xs : Nat → Int32} : am_tbl Ls xs 109 660 = some (o_iload 3 1) := (m_109 660).trans rfl
set_option maxRecDepth 20000 in
theorem t_109_661 {Ls : Nat} {xs : Nat → Int32} : am_tbl Ls xs 109 661 = some (o_push (.int 1) 1) := (m_109 661).trans rfl
set_option maxRecDepth 20000 in
theorem t_109_662 {Ls : Nat} {xs : Nat → Int32} : am_tbl Ls xs 109 662 = some (o_ibin (fun x y => x + y)) := (m_109 662).trans rfl
set_option maxRecDepth 20000 in
theorem t_109_663 {Ls : Nat} {xs : Nat → Int32} : am_tbl Ls xs 109 663 = some (o_sld Ls xs) := (m_109 663).trans rfl
set_option maxRecDepth 20000 in
theorem t_109_664 {Ls : Nat} {xs : Nat → Int32} : am_tbl Ls xs 109 664 = some (o_aload 0 1) := (m_109 664).trans rfl
set_option maxRecDepth 20000 in
theorem t_109_665 {Ls : Nat} {xs : Nat → Int32} : am_tbl Ls xs 109 665 = some (o_iload 3 1) := (m_109 665).trans rfl
set_option maxRecDepth 20000 in
theorem t_109_666 {Ls : Nat} {xs : Nat → Int32} : am_tbl Ls xs 109 666 = some (o_push (.int 2) 1) := (m_109 666).trans rfl
set_option maxRecDepth 20000 in
theorem t_109_667 {Ls : Nat} {xs : Nat → Int32} : am_tbl Ls xs 109 667 = some (o_ibin (fun x y => x + y)) := (m_109 667).trans rfl
set_option maxRecDepth 20000 in
theorem t_109_668 {Ls : Nat} {xs : Nat → Int32} : am_tbl Ls xs 109 668 = some (o_sld Ls xs) := (m_109 668).trans rfl
set_option maxRecDepth 20000 in
theorem t_109_669 {Ls : Nat} {xs : Nat → Int32} : am_tbl Ls xs 109 669 = some (o_callv 90 2 8 4) := (m_109 669).trans rfl
set_option maxRecDepth 20000 in
theorem t_109_672 {Ls : Nat} {xs : Nat → Int32} : am_tbl Ls xs 109 672 = some (o_aload 2 1) := (m_109 672).trans rfl
set_option maxRecDepth 20000 in
theorem t_109_673 {Ls : Nat} {xs : Nat → Int32} : am_tbl Ls xs 109 673 = some (o_aload 0 1) := (m_109 673).trans rfl
set_option maxRecDepth 20000 in
theorem t_109_674 {Ls : Nat} {xs : Nat → Int32} : am_tbl Ls xs 109 674 = some (o_iload 3 1) := (m_109 674).trans rfl
set_option maxRecDepth 20000 in
theorem t_109_675 {Ls : Nat} {xs : Nat → Int32} : am_tbl Ls xs 109 675 = some (o_push (.int 1) 1) := (m_109 675).trans rfl
set_option maxRecDepth 20000 in
theorem t_109_676 {Ls : Nat} {xs : Nat → Int32} : am_tbl Ls xs 109 676 = some (o_ibin (fun x y => x + y)) := (m_109 676).trans rfl
set_option maxRecDepth 20000 in
theorem t_109_677 {Ls : Nat} {xs : Nat → Int32} : am_tbl Ls xs 109 677 = some (o_sld Ls xs) := (m_109 677).trans rfl
set_option maxRecDepth 20000 in
theorem t_109_678 {Ls : Nat} {xs : Nat → Int32} : am_tbl Ls xs 109 678 = some (o_aload 0 1) := (m_109 678).trans rfl
set_option maxRecDepth 20000 in
theorem t_109_679 {Ls : Nat} {xs : Nat → Int32} : am_tbl Ls xs 109 679 = some (o_iload 3 1) := (m_109 679).trans rfl
set_option maxRecDepth 20000 in
theorem t_109_680 {Ls : Nat} {xs : Nat → Int32} : am_tbl Ls xs 109 680 = some (o_push (.int 2) 1) := (m_109 680).trans rfl
set_option maxRecDepth 20000 in
theorem t_109_681 {Ls : Nat} {xs : Nat → Int32} : am_tbl Ls xs 109 681 = some (o_ibin (fun x y => x + y)) := (m_109 681).trans rfl
set_option maxRecDepth 20000 in
theorem t_109_682 {Ls : Nat} {xs : Nat → Int32} : am_tbl Ls xs 109 682 = some (o_sld Ls xs) := (m_109 682).trans rfl
set_option maxRecDepth 20000 in
theorem t_109_683 {Ls : Nat} {xs : Nat → Int32} : am_tbl Ls xs 109 683 = some (o_callv 57 2 9 8) := (m_109 683).trans rfl
set_option maxRecDepth 20000 in
theorem t_109_686 {Ls : Nat} {xs : Nat → Int32} : am_tbl Ls xs 109 686 = some (o_icmp (fun x y => decide (x = y)) 1060) := (m_109 686).trans rfl
set_option maxRecDepth 20000 in
theorem t_109_689 {Ls : Nat} {xs : Nat → Int32} : am_tbl Ls xs 109 689 = some (o_push (.int 0) 1) := (m_109 689).trans rfl
set_option maxRecDepth 20000 in
theorem t_109_690 {Ls : Nat} {xs : Nat → Int32} : am_tbl Ls xs 109 690 = some (o_zret) := (m_109 690).trans rfl
set_option maxRecDepth 20000 in
theorem t_109_691 {Ls : Nat} {xs : Nat → Int32} : am_tbl Ls xs 109 691 = some (o_aload 1 1) := (m_109 691).trans rfl
set_option maxRecDepth 20000 in
theorem t_109_692 {Ls : Nat} {xs : Nat → Int32} : am_tbl Ls xs 109 692 = some (o_aload 0 1) := (m_109 692).trans rfl
set_option maxRecDepth 20000 in
theorem t_109_693 {Ls : Nat} {xs : Nat → Int32} : am_tbl Ls xs 109 693 = some (o_iload 3 1) := (m_109 693).trans rfl
set_option maxRecDepth 20000 in
theorem t_109_694 {Ls : Nat} {xs : Nat → Int32} : am_tbl Ls xs 109 694 = some (o_push (.int 1) 1) := (m_109 694).trans rfl
set_option maxRecDepth 20000 in
theorem t_109_695 {Ls : Nat} {xs : Nat → Int32} : am_tbl Ls xs 109 695 = some (o_ibin (fun x y => x + y)) := (m_109 695).trans rfl
set_option maxRecDepth 20000 in
theorem t_109_696 {Ls : Nat} {xs : Nat → Int32} : am_tbl Ls xs 109 696 = some (o_sld Ls xs) := (m_109 696).trans rfl
set_option maxRecDepth 20000 in
theorem t_109_697 {Ls : Nat} {xs : Nat → Int32} : am_tbl Ls xs 109 697 = some (o_aload 0 1) := (m_109 697).trans rfl
set_option maxRecDepth 20000 in
theorem t_109_698 {Ls : Nat} {xs : Nat → Int32} : am_tbl Ls xs 109 698 = some (o_iload 3 1) := (m_109 698).trans rfl
set_option maxRecDepth 20000 in
theorem t_109_699 {Ls : Nat} {xs : Nat → Int32} : am_tbl Ls xs 109 699 = some (o_push (.int 2) 1) := (m_109 699).trans rfl
set_option maxRecDepth 20000 in
theorem t_109_700 {Ls : Nat} {xs : Nat → Int32} : am_tbl Ls xs 109 700 = some (o_ibin (fun x y => x + y)) := (m_109 700).trans rfl
set_option maxRecDepth 20000 in
theorem t_109_701 {Ls : Nat} {xs : Nat → Int32} : am_tbl Ls xs 109 701 = some (o_sld Ls xs) := (m_109 701).trans rfl
set_option maxRecDepth 20000 in
theorem t_109_702 {Ls : Nat} {xs : Nat → Int32} : am_tbl Ls xs 109 702 = some (o_callv 91 2 8 3) := (m_109 702).trans rfl
set_option maxRecDepth 20000 in
theorem t_109_705 {Ls : Nat} {xs : Nat → Int32} : am_tbl Ls xs 109 705 = some (o_aload 2 1) := (m_109 705).trans rfl
set_option maxRecDepth 20000 in
theorem t_109_706 {Ls : Nat} {xs : Nat → Int32} : am_tbl Ls xs 109 706 = some (o_aload 0 1) := (m_109 706).trans rfl
set_option maxRecDepth 20000 in
theorem t_109_707 {Ls : Nat} {xs : Nat → Int32} : am_tbl Ls xs 109 707 = some (o_iload 3 1) := (m_109 707).trans rfl
set_option maxRecDepth 20000 in
theorem t_109_708 {Ls : Nat} {xs : Nat → Int32} : am_tbl Ls xs 109 708 = some (o_push (.int 1) 1) := (m_109 708).trans rfl
set_option maxRecDepth 20000 in
theorem t_109_709 {Ls : Nat} {xs : Nat → Int32} : am_tbl Ls xs 109 709 = some (o_ibin (fun x y => x + y)) := (m_109 709).trans rfl
set_option maxRecDepth 20000 in
theorem t_109_710 {Ls : Nat} {xs : Nat → Int32} : am_tbl Ls xs 109 710 = some (o_sld Ls xs) := (m_109 710).trans rfl
set_option maxRecDepth 20000 in
theorem t_109_711 {Ls : Nat} {xs : Nat → Int32} : am_tbl Ls xs 109 711 = some (o_aload 0 1) := (m_109 711).trans rfl
set_option maxRecDepth 20000 in
theorem t_109_712 {Ls : Nat} {xs : Nat → Int32} : am_tbl Ls xs 109 712 = some (o_iload 3 1) := (m_109 712).trans rfl
set_option maxRecDepth 20000 in
theorem t_109_713 {Ls : Nat} {xs : Nat → Int32} : am_tbl Ls xs 109 713 = some (o_push (.int 2) 1) := (m_109 713).trans rfl
set_option maxRecDepth 20000 in
theorem t_109_714 {Ls : Nat} {xs : Nat → Int32} : am_tbl Ls xs 109 714 = some (o_ibin (fun x y => x + y)) := (m_109 714).trans rfl
set_option maxRecDepth 20000 in
theorem t_109_715 {Ls : Nat} {xs : Nat → Int32} : am_tbl Ls xs 109 715 = some (o_sld Ls xs) := (m_109 715).trans rfl
set_option maxRecDepth 20000 in
theorem t_109_716 {Ls : Nat} {xs : Nat → Int32} : am_tbl Ls xs 109 716 = some (o_callv 59 2 9 3) := (m_109 716).trans rfl
set_option maxRecDepth 20000 in
theorem t_109_719 {Ls : Nat} {xs : Nat → Int32} : am_tbl Ls xs 109 719 = some (o_icmp (fun x y => decide (x = y)) 1060) := (m_109 719).trans rfl
set_option maxRecDepth 20000 in
theorem t_109_722 {Ls : Nat} {xs : Nat → Int32} : am_tbl Ls xs 109 722 = some (o_push (.int 0) 1) := (m_109 722).trans rfl
set_option maxRecDepth 20000 in
theorem t_109_723 {Ls : Nat} {xs : Nat → Int32} : am_tbl Ls xs 109 723 = some (o_zret) := (m_109 723).trans rfl
set_option maxRecDepth 20000 in
theorem t_109_724 {Ls : Nat} {xs : Nat → Int32} : am_tbl Ls xs 109 724 = some (o_aload 1 1) := (m_109 724).trans rfl
set_option maxRecDepth 20000 in
theorem t_109_725 {Ls : Nat} {xs : Nat → Int32} : am_tbl Ls xs 109 725 = some (o_aload 0 1) := (m_109 725).trans rfl
set_option maxRecDepth 20000 in
theorem t_109_726 {Ls : Nat} {xs : Nat → Int32} : am_tbl Ls xs 109 726 = some (o_iload 3 1) := (m_109 726).trans rfl
set_option maxRecDepth 20000 in
theorem t_109_727 {Ls : Nat} {xs : Nat → Int32} : am_tbl Ls xs 109 727 = some (o_push (.int 1) 1) := (m_109 727).trans rfl
set_option maxRecDepth 20000 in
theorem t_109_728 {Ls : Nat} {xs : Nat → Int32} : am_tbl Ls xs 109 728 = some (o_ibin (fun x y => x + y)) := (m_109 728).trans rfl
set_option maxRecDepth 20000 in
theorem t_109_729 {Ls : Nat} {xs : Nat → Int32} : am_tbl Ls xs 109 729 = some (o_sld Ls xs) := (m_109 729).trans rfl
set_option maxRecDepth 20000 in
theorem t_109_730 {Ls : Nat} {xs : Nat → Int32} : am_tbl Ls xs 109 730 = some (o_callv 92 1 8 2) := (m_109 730).trans rfl
set_option maxRecDepth 20000 in
theorem t_109_733 {Ls : Nat} {xs : Nat → Int32} : am_tbl Ls xs 109 733 = some (o_aload 2 1) := (m_109 733).trans rfl
set_option maxRecDepth 20000 in
theorem t_109_734 {Ls : Nat} {xs : Nat → Int32} : am_tbl Ls xs 109 734 = some (o_aload 0 1) := (m_109 734).trans rfl
set_option maxRecDepth 20000 in
theorem t_109_735 {Ls : Nat} {xs : Nat → Int32} : am_tbl Ls xs 109 735 = some (o_iload 3 1) := (m_109 735).trans rfl
set_option maxRecDepth 20000 in
theorem t_109_736 {Ls : Nat} {xs : Nat → Int32} : am_tbl Ls xs 109 736 = some (o_push (.int 1) 1) := (m_109 736).trans rfl
set_option maxRecDepth 20000 in
theorem t_109_737 {Ls : Nat} {xs : Nat → Int32} : am_tbl Ls xs 109 737 = some (o_ibin (fun x y => x + y)) := (m_109 737).trans rfl
set_option maxRecDepth 20000 in
theorem t_109_738 {Ls : Nat} {xs : Nat → Int32} : am_tbl Ls xs 109 738 = some (o_sld Ls xs) := (m_109 738).trans rfl
set_option maxRecDepth 20000 in
theorem t_109_739 {Ls : Nat} {xs : Nat → Int32} : am_tbl Ls xs 109 739 = some (o_callv 61 1 9 8) := (m_109 739).trans rfl
set_option maxRecDepth 20000 in
theorem t_109_742 {Ls : Nat} {xs : Nat → Int32} : am_tbl Ls xs 109 742 = some (o_icmp (fun x y => decide (x = y)) 1060) := (m_109 742).trans rfl
set_option maxRecDepth 20000 in
theorem t_109_745 {Ls : Nat} {xs : Nat → Int32} : am_tbl Ls xs 109 745 = some (o_push (.int 0) 1) := (m_109 745).trans rfl
set_option maxRecDepth 20000 in
theorem t_109_746 {Ls : Nat} {xs : Nat → Int32} : am_tbl Ls xs 109 746 = some (o_zret) := (m_109 746).trans rfl
set_option maxRecDepth 20000 in
theorem t_109_747 {Ls : Nat} {xs : Nat → Int32} : am_tbl Ls xs 109 747 = some (o_aload 1 1) := (m_109 747).trans rfl
set_option maxRecDepth 20000 in
theorem t_109_748 {Ls : Nat} {xs : Nat → Int32} : am_tbl Ls xs 109 748 = some (o_aload 0 1) := (m_109 748).trans rfl
set_option maxRecDepth 20000 in
theorem t_109_749 {Ls : Nat} {xs : Nat → Int32} : am_tbl Ls xs 109 749 = some (o_iload 3 1) := (m_109 749).trans rfl
set_option maxRecDepth 20000 in
theorem t_109_750 {Ls : Nat} {xs : Nat → Int32} : am_tbl Ls xs 109 750 = some (o_push (.int 1) 1) := (m_109 750).trans rfl
set_option maxRecDepth 20000 in
theorem t_109_751 {Ls : Nat} {xs : Nat → Int32} : am_tbl Ls xs 109 751 = some (o_ibin (fun x y => x + y)) := (m_109 751).trans rfl
set_option maxRecDepth 20000 in
theorem t_109_752 {Ls : Nat} {xs : Nat → Int32} : am_tbl Ls xs 109 752 = some (o_sld Ls xs) := (m_109 752).trans rfl
set_option maxRecDepth 20000 in
theorem t_109_753 {Ls : Nat} {xs : Nat → Int32} : am_tbl Ls xs 109 753 = some (o_aload 0 1) := (m_109 753).trans rfl
set_option maxRecDepth 20000 in
theorem t_109_754 {Ls : Nat} {xs : Nat → Int32} : am_tbl Ls xs 109 754 = some (o_iload 3 1) := (m_109 754).trans rfl
set_option maxRecDepth 20000 in
theorem t_109_755 {Ls : Nat} {xs : Nat → Int32} : am_tbl Ls xs 109 755 = some (o_push (.int 2) 1) := (m_109 755).trans rfl
set_option maxRecDepth 20000 in
theorem t_109_756 {Ls : Nat} {xs : Nat → Int32} : am_tbl Ls xs 109 756 = some (o_ibin (fun x y => x + y)) := (m_109 756).trans rfl
set_option maxRecDepth 20000 in
theorem t_109_757 {Ls : Nat} {xs : Nat → Int32} : am_tbl Ls xs 109 757 = some (o_sld Ls xs) := (m_109 757).trans rfl
set_option maxRecDepth 20000 in
theorem t_109_758 {Ls : Nat} {xs : Nat → Int32} : am_tbl Ls xs 109 758 = some (o_aload 0 1) := (m_109 758).trans rfl
set_option maxRecDepth 20000 in
theorem t_109_759 {Ls : Nat} {xs : Nat → Int32} : am_tbl Ls xs 109 759 = some (o_iload 3 1) := (m_109 759).trans rfl
set_option maxRecDepth 20000 in
theorem t_109_760 {Ls : Nat} {xs : Nat → Int32} : am_tbl Ls xs 109 760 = some (o_push (.int 3) 1) := (m_109 760).trans rfl
set_option maxRecDepth 20000 in
theorem t_109_761 {Ls : Nat} {xs : Nat → Int32} : am_tbl Ls xs 109 761 = some (o_ibin (fun x y => x + y)) := (m_109 761).trans rfl
set_option maxRecDepth 20000 in
theorem t_109_762 {Ls : Nat} {xs : Nat → Int32} : am_tbl Ls xs 109 762 = some (o_sld Ls xs) := (m_109 762).trans rfl
set_option maxRecDepth 20000 in
theorem t_109_763 {Ls : Nat} {xs : Nat → Int32} : am_tbl Ls xs 109 763 = some (o_callv 93 3 8 5) := (m_109 763).trans rfl
set_option maxRecDepth 20000 in
theorem t_109_766 {Ls : Nat} {xs : Nat → Int32} : am_tbl Ls xs 109 766 = some (o_aload 2 1) := (m_109 766).trans rfl
set_option maxRecDepth 20000 in
theorem t_109_767 {Ls : Nat} {xs : Nat → Int32} : am_tbl Ls xs 109 767 = some (o_aload 0 1) := (m_109 767).trans rfl
set_option maxRecDepth 20000 in
theorem t_109_768 {Ls : Nat} {xs : Nat → Int32} : am_tbl Ls xs 109 768 = some (o_iload 3 1) := (m_109 768).trans rfl
set_option maxRecDepth 20000 in
theorem t_109_769 {Ls : Nat} {xs : Nat → Int32} : am_tbl Ls xs 109 769 = some (o_push (.int 1) 1) := (m_109 769).trans rfl
set_option maxRecDepth 20000 in
theorem t_109_770 {Ls : Nat} {xs : Nat → Int32} : am_tbl Ls xs 109 770 = some (o_ibin (fun x y => x + y)) := (m_109 770).trans rfl
set_option maxRecDepth 20000 in
theorem t_109_771 {Ls : Nat} {xs : Nat → Int32} : am_tbl Ls xs 109 771 = some (o_sld Ls xs) := (m_109 771).trans rfl
set_option maxRecDepth 20000 in
theorem t_109_772 {Ls : Nat} {xs : Nat → Int32} : am_tbl Ls xs 109 772 = some (o_aload 0 1) := (m_109 772).trans rfl
set_option maxRecDepth 20000 in
theorem t_109_773 {Ls : Nat} {xs : Nat → Int32} : am_tbl Ls xs 109 773 = some (o_iload 3 1) := (m_109 773).trans rfl
set_option maxRecDepth 20000 in
theorem t_109_774 {Ls : Nat} {xs : Nat → Int32} : am_tbl Ls xs 109 774 = some (o_push (.int 2) 1) := (m_109 774).trans rfl
set_option maxRecDepth 20000 in
theorem t_109_775 {Ls : Nat} {xs : Nat → Int32} : am_tbl Ls xs 109 775 = some (o_ibin (fun x y => x + y)) := (m_109 775).trans rfl
set_option maxRecDepth 20000 in
theorem t_109_776 {Ls : Nat} {xs : Nat → Int32} : am_tbl Ls xs 109 776 = some (o_sld Ls xs) := (m_109 776).trans rfl
set_option maxRecDepth 20000 in
theorem t_109_777 {Ls : Nat} {xs : Nat → Int32} : am_tbl Ls xs 109 777 = some (o_aload 0 1) := (m_109 777).trans rfl
set_option maxRecDepth 20000 in
theorem t_109_778 {Ls : Nat} {xs : Nat → Int32} : am_tbl Ls xs 109 778 = some (o_iload 3 1) := (m_109 778).trans rfl
set_option maxRecDepth 20000 in
theorem t_109_779 {Ls : Nat} {xs : Nat → Int32} : am_tbl Ls xs 109 779 = some (o_push (.int 3) 1) := (m_109 779).trans rfl
set_option maxRecDepth 20000 in
theorem t_109_780 {Ls : Nat} {xs : Nat → Int32} : am_tbl Ls xs 109 780 = some (o_ibin (fun x y => x + y)) := (m_109 780).trans rfl
set_option maxRecDepth 20000 in
theorem t_109_781 {Ls : Nat} {xs : Nat → Int32} : am_tbl Ls xs 109 781 = some (o_sld Ls xs) := (m_109 781).trans rfl
set_option maxRecDepth 20000 in
theorem t_109_782 {Ls : Nat} {xs : Nat → Int32} : am_tbl Ls xs 109 782 = some (o_callv 63 3 9 7) := (m_109 782).trans rfl
set_option maxRecDepth 20000 in
theorem t_109_785 {Ls : Nat} {xs : Nat → Int32} : am_tbl Ls xs 109 785 = some (o_icmp (fun x y => decide (x = y)) 1060) := (m_109 785).trans rfl
set_option maxRecDepth 20000 in
theorem t_109_788 {Ls : Nat} {xs : Nat → Int32} : am_tbl Ls xs 109 788 = some (o_push (.int 0) 1) := (m_109 788).trans rfl
set_option maxRecDepth 20000 in
theorem t_109_789 {Ls : Nat} {xs : Nat → Int32} : am_tbl Ls xs 109 789 = some (o_zret) := (m_109 789).trans rfl
set_option maxRecDepth 20000 in
theorem t_109_790 {Ls : Nat} {xs : Nat → Int32} : am_tbl Ls xs 109 790 = some (o_aload 1 1) := (m_109 790).trans rfl
set_option maxRecDepth 20000 in
theorem t_109_791 {Ls : Nat} {xs : Nat → Int32} : am_tbl Ls xs 109 791 = some (o_aload 0 1) := (m_109 791).trans rfl
set_option maxRecDepth 20000 in
theorem t_109_792 {Ls : Nat} {xs : Nat → Int32} : am_tbl Ls xs 109 792 = some (o_iload 3 1) := (m_109 792).trans rfl
set_option maxRecDepth 20000 in
theorem t_109_793 {Ls : Nat} {xs : Nat → Int32} : am_tbl Ls xs 109 793 = some (o_push (.int 1) 1) := (m_109 793).trans rfl
set_option maxRecDepth 20000 in
theorem t_109_794 {Ls : Nat} {xs : Nat → Int32} : am_tbl Ls xs 109 794 = some (o_ibin (fun x y => x + y)) := (m_109 794).trans rfl
set_option maxRecDepth 20000 in
theorem t_109_795 {Ls : Nat} {xs : Nat → Int32} : am_tbl Ls xs 109 795 = some (o_sld Ls xs) := (m_109 795).trans rfl
set_option maxRecDepth 20000 in
theorem t_109_796 {Ls : Nat} {xs : Nat → Int32} : am_tbl Ls xs 109 796 = some (o_aload 0 1) := (m_109 796).trans rfl
set_option maxRecDepth 20000 in
theorem t_109_797 {Ls : Nat} {xs : Nat → Int32} : am_tbl Ls xs 109 797 = some (o_iload 3 1) := (m_109 797).trans rfl
set_option maxRecDepth 20000 in
theorem t_109_798 {Ls : Nat} {xs : Nat → Int32} : am_tbl Ls xs 109 798 = some (o_push (.int 2) 1) := (m_109 798).trans rfl
set_option maxRecDepth 20000 in
theorem t_109_799 {Ls : Nat} {xs : Nat → Int32} : am_tbl Ls xs 109 799 = some (o_ibin (fun x y => x + y)) := (m_109 799).trans rfl
set_option maxRecDepth 20000 in
theorem t_109_800 {Ls : Nat} {xs : Nat → Int32} : am_tbl Ls xs 109 800 = some (o_sld Ls xs) := (m_109 800).trans rfl
set_option maxRecDepth 20000 in
theorem t_109_801 {Ls : Nat} {xs : Nat → Int32} : am_tbl Ls xs 109 801 = some (o_aload 0 1) := (m_109 801).trans rfl
set_option maxRecDepth 20000 in
theorem t_109_802 {Ls : Nat} {xs : Nat → Int32} : am_tbl Ls xs 109 802 = some (o_iload 3 1) := (m_109 802).trans rfl
set_option maxRecDepth 20000 in
theorem t_109_803 {Ls : Nat} {xs : Nat → Int32} : am_tbl Ls xs 109 803 = some (o_push (.int 3) 1) := (m_109 803).trans rfl
set_option maxRecDepth 20000 in
theorem t_109_804 {Ls : Nat} {xs : Nat → Int32} : am_tbl Ls xs 109 804 = some (o_ibin (fun x y => x + y)) := (m_109 804).trans rfl
set_option maxRecDepth 20000 in
theorem t_109_805 {Ls : Nat} {xs : Nat → Int32} : am_tbl Ls xs 109 805 = some (o_sld Ls xs) := (m_109 805).trans rfl
set_option maxRecDepth 20000 in
theorem t_109_806 {Ls : Nat} {xs : Nat → Int32} : am_tbl Ls xs 109 806 = some (o_callv 94 3 8 4) := (m_109 806).trans rfl
set_option maxRecDepth 20000 in
theorem t_109_809 {Ls : Nat} {xs : Nat → Int32} : am_tbl Ls xs 109 809 = some (o_aload 2 1) := (m_109 809).trans rfl
set_option maxRecDepth 20000 in
theorem t_109_810 {Ls : Nat} {xs : Nat → Int32} : am_tbl Ls xs 109 810 = some (o_aload 0 1) := (m_109 810).trans rfl
set_option maxRecDepth 20000 in
theorem t_109_811 {Ls : Nat} {xs : Nat → Int32} : am_tbl Ls xs 109 811 = some (o_iload 3 1) := (m_109 811).trans rfl
set_option maxRecDepth 20000 in
theorem t_109_812 {Ls : Nat} {xs : Nat → Int32} : am_tbl Ls xs 109 812 = some (o_push (.int 1) 1) := (m_109 812).trans rfl
set_option maxRecDepth 20000 in
theorem t_109_813 {Ls : Nat} {xs : Nat → Int32} : am_tbl Ls xs 109 813 = some (o_ibin (fun x y => x + y)) := (m_109 813).trans rfl
set_option maxRecDepth 20000 in
theorem t_109_814 {Ls : Nat} {xs : Nat → Int32} : am_tbl Ls xs 109 814 = some (o_sld Ls xs) := (m_109 814).trans rfl
set_option maxRecDepth 20000 in
theorem t_109_815 {Ls : Nat} {xs : Nat → Int32} : am_tbl Ls xs 109 815 = some (o_aload 0 1) := (m_109 815).trans rfl
set_option maxRecDepth 20000 in
theorem t_109_816 {Ls : Nat} {xs : Nat → Int32} : am_tbl Ls xs 109 816 = some (o_iload 3 1) := (m_109 816).trans rfl
set_option maxRecDepth 20000 in
theorem t_109_817 {Ls : Nat} {xs : Nat → Int32} : am_tbl Ls xs 109 817 = some (o_push (.int 2) 1) := (m_109 817).trans rfl
set_option maxRecDepth 20000 in
theorem t_109_818 {Ls : Nat} {xs : Nat → Int32} : am_tbl Ls xs 109 818 = some (o_ibin (fun x y => x + y)) := (m_109 818).trans rfl
set_option maxRecDepth 20000 in
theorem t_109_819 {Ls : Nat} {xs : Nat → Int32} : am_tbl Ls xs 109 819 = some (o_sld Ls xs) := (m_109 819).trans rfl
set_option maxRecDepth 20000 in
theorem t_109_820 {Ls : Nat} {xs : Nat → Int32} : am_tbl Ls xs 109 820 = some (o_aload 0 1) := (m_109 820).trans rfl
set_option maxRecDepth 20000 in
theorem t_109_821 {Ls : Nat} {xs : Nat → Int32} : am_tbl Ls xs 109 821 = some (o_iload 3 1) := (m_109 821).trans rfl
set_option maxRecDepth 20000 in
theorem t_109_822 {Ls : Nat} {xs : Nat → Int32} : am_tbl Ls xs 109 822 = some (o_push (.int 3) 1) := (m_109 822).trans rfl
set_option maxRecDepth 20000 in
theorem t_109_823 {Ls : Nat} {xs : Nat → Int32} : am_tbl Ls xs 109 823 = some (o_ibin (fun x y => x + y)) := (m_109 823).trans rfl
set_option maxRecDepth 20000 in
theorem t_109_824 {Ls : Nat} {xs : Nat → Int32} : am_tbl Ls xs 109 824 = some (o_sld Ls xs) := (m_109 824).trans rfl
set_option maxRecDepth 20000 in
theorem t_109_825 {Ls : Nat} {xs : Nat → Int32} : am_tbl Ls xs 109 825 = some (o_callv 64 3 9 9) := (m_109 825).trans rfl
set_option maxRecDepth 20000 in
theorem t_109_828 {Ls : Nat} {xs : Nat → Int32} : am_tbl Ls xs 109 828 = some (o_icmp (fun x y => decide (x = y)) 1060) := (m_109 828).trans rfl
set_option maxRecDepth 20000 in
theorem t_109_831 {Ls : Nat} {xs : Nat → Int32} : am_tbl Ls xs 109 831 = some (o_push (.int 0) 1) := (m_109 831).trans rfl
set_option maxRecDepth 20000 in
theorem t_109_832 {Ls : Nat} {xs : Nat → Int32} : am_tbl Ls xs 109 832 = some (o_zret) := (m_109 832).trans rfl
set_option maxRecDepth 20000 in
theorem t_109_833 {Ls : Nat} {xs : Nat → Int32} : am_tbl Ls xs 109 833 = some (o_aload 1 1) := (m_109 833).trans rfl
set_option maxRecDepth 20000 in
theorem t_109_834 {Ls : Nat} {xs : Nat → Int32} : am_tbl Ls xs 109 834 = some (o_aload 0 1) := (m_109 834).trans rfl
set_option maxRecDepth 20000 in
theorem t_109_835 {Ls : Nat} {xs : Nat → Int32} : am_tbl Ls xs 109 835 = some (o_iload 3 1) := (m_109 835).trans rfl
set_option maxRecDepth 20000 in
theorem t_109_836 {Ls : Nat} {xs : Nat → Int32} : am_tbl Ls xs 109 836 = some (o_push (.int 1) 1) := (m_109 836).trans rfl
set_option maxRecDepth 20000 in
theorem t_109_837 {Ls : Nat} {xs : Nat → Int32} : am_tbl Ls xs 109 837 = some (o_ibin (fun x y => x + y)) := (m_109 837).trans rfl
set_option maxRecDepth 20000 in
theorem t_109_838 {Ls : Nat} {xs : Nat → Int32} : am_tbl Ls xs 109 838 = some (o_sld Ls xs) := (m_109 838).trans rfl
set_option maxRecDepth 20000 in
theorem t_109_839 {Ls : Nat} {xs : Nat → Int32} : am_tbl Ls xs 109 839 = some (o_callv 95 1 8 3) := (m_109 839).trans rfl
set_option maxRecDepth 20000 in
theorem t_109_842 {Ls : Nat} {xs : Nat → Int32} : am_tbl Ls xs 109 842 = some (o_aload 2 1) := (m_109 842).trans rfl
set_option maxRecDepth 20000 in
theorem t_109_843 {Ls : Nat} {xs : Nat → Int32} : am_tbl Ls xs 109 843 = some (o_aload 0 1) := (m_109 843).trans rfl
set_option maxRecDepth 20000 in
theorem t_109_844 {Ls : Nat} {xs : Nat → Int32} : am_tbl Ls xs 109 844 = some (o_iload 3 1) := (m_109 844).trans rfl
set_option maxRecDepth 20000 in
theorem t_109_845 {Ls : Nat} {xs : Nat → Int32} : am_tbl Ls xs 109 845 = some (o_push (.int 1) 1) := (m_109 845).trans rfl
set_option maxRecDepth 20000 in
theorem t_109_846 {Ls : Nat} {xs : Nat → Int32} : am_tbl Ls xs 109 846 = some (o_ibin (fun x y => x + y)) := (m_109 846).trans rfl
set_option maxRecDepth 20000 in
theorem t_109_847 {Ls : Nat} {xs : Nat → Int32} : am_tbl Ls xs 109 847 = some (o_sld Ls xs) := (m_109 847).trans rfl
set_option maxRecDepth 20000 in
theorem t_109_848 {Ls : Nat} {xs : Nat → Int32} : am_tbl Ls xs 109 848 = some (o_callv 65 1 9 7) := (m_109 848).trans rfl
set_option maxRecDepth 20000 in
theorem t_109_851 {Ls : Nat} {xs : Nat → Int32} : am_tbl Ls xs 109 851 = some (o_icmp (fun x y => decide (x = y)) 1060) := (m_109 851).trans rfl
set_option maxRecDepth 20000 in
theorem t_109_854 {Ls : Nat} {xs : Nat → Int32} : am_tbl Ls xs 109 854 = some (o_push (.int 0) 1) := (m_109 854).trans rfl
set_option maxRecDepth 20000 in
theorem t_109_855 {Ls : Nat} {xs : Nat → Int32} : am_tbl Ls xs 109 855 = some (o_zret) := (m_109 855).trans rfl
set_option maxRecDepth 20000 in
theorem t_109_856 {Ls : Nat} {xs : Nat → Int32} : am_tbl Ls xs 109 856 = some (o_aload 1 1) := (m_109 856).trans rfl
set_option maxRecDepth 20000 in
theorem t_109_857 {Ls : Nat} {xs : Nat → Int32} : am_tbl Ls xs 109 857 = some (o_aload 0 1) := (m_109 857).trans rfl
set_option maxRecDepth 20000 in
theorem t_109_858 {Ls : Nat} {xs : Nat → Int32} : am_tbl Ls xs 109 858 = some (o_iload 3 1) := (m_109 858).trans rfl
set_option maxRecDepth 20000 in
theorem t_109_859 {Ls : Nat} {xs : Nat → Int32} : am_tbl Ls xs 109 859 = some (o_push (.int 1) 1) := (m_109 859).trans rfl
set_option maxRecDepth 20000 in
theorem t_109_860 {Ls : Nat} {xs : Nat → Int32} : am_tbl Ls xs 109 860 = some (o_ibin (fun x y => x + y)) := (m_109 860).trans rfl
set_option maxRecDepth 20000 in
theorem t_109_861 {Ls : Nat} {xs : Nat → Int32} : am_tbl Ls xs 109 861 = some (o_sld Ls xs) := (m_109 861).trans rfl
set_option maxRecDepth 20000 in
theorem t_109_862 {Ls : Nat} {xs : Nat → Int32} : am_tbl Ls xs 109 862 = some (o_aload 0 1) := (m_109 862).trans rfl
set_option maxRecDepth 20000 in
theorem t_109_863 {Ls : Nat} {xs : Nat → Int32} : am_tbl Ls xs 109 863 = some (o_iload 3 1) := (m_109 863).trans rfl
set_option maxRecDepth 20000 in
theorem t_109_864 {Ls : Nat} {xs : Nat → Int32} : am_tbl Ls xs 109 864 = some (o_push (.int 2) 1) := (m_109 864).trans rfl
set_option maxRecDepth 20000 in
theorem t_109_865 {Ls : Nat} {xs : Nat → Int32} : am_tbl Ls xs 109 865 = some (o_ibin (fun x y => x + y)) := (m_109 865).trans rfl
set_option maxRecDepth 20000 in
theorem t_109_866 {Ls : Nat} {xs : Nat → Int32} : am_tbl Ls xs 109 866 = some (o_sld Ls xs) := (m_109 866).trans rfl
set_option maxRecDepth 20000 in
theorem t_109_867 {Ls : Nat} {xs : Nat → Int32} : am_tbl Ls xs 109 867 = some (o_callv 96 2 8 3) := (m_109 867).trans rfl
set_option maxRecDepth 20000 in
theorem t_109_870 {Ls : Nat} {xs : Nat → Int32} : am_tbl Ls xs 109 870 = some (o_aload 2 1) := (m_109 870).trans rfl
set_option maxRecDepth 20000 in
theorem t_109_871 {Ls : Nat} {xs : Nat → Int32} : am_tbl Ls xs 109 871 = some (o_aload 0 1) := (m_109 871).trans rfl
set_option maxRecDepth 20000 in
theorem t_109_872 {Ls : Nat} {xs : Nat → Int32} : am_tbl Ls xs 109 872 = some (o_iload 3 1) := (m_109 872).trans rfl
set_option maxRecDepth 20000 in
theorem t_109_873 {Ls : Nat} {xs : Nat → Int32} : am_tbl Ls xs 109 873 = some (o_push (.int 1) 1) := (m_109 873).trans rfl
set_option maxRecDepth 20000 in
theorem t_109_874 {Ls : Nat} {xs : Nat → Int32} : am_tbl Ls xs 109 874 = some (o_ibin (fun x y => x + y)) := (m_109 874).trans rfl
set_option maxRecDepth 20000 in
theorem t_109_875 {Ls : Nat} {xs : Nat → Int32} : am_tbl Ls xs 109 875 = some (o_sld Ls xs) := (m_109 875).trans rfl
set_option maxRecDepth 20000 in
theorem t_109_876 {Ls : Nat} {xs : Nat → Int32} : am_tbl Ls xs 109 876 = some (o_aload 0 1) := (m_109 876).trans rfl
set_option maxRecDepth 20000 in
theorem t_109_877 {Ls : Nat} {xs : Nat → Int32} : am_tbl Ls xs 109 877 = some (o_iload 3 1) := (m_109 877).trans rfl
set_option maxRecDepth 20000 in
theorem t_109_878 {Ls : Nat} {xs : Nat → Int32} : am_tbl Ls xs 109 878 = some (o_push (.int 2) 1) := (m_109 878).trans rfl
set_option maxRecDepth 20000 in
theorem t_109_879 {Ls : Nat} {xs : Nat → Int32} : am_tbl Ls xs 109 879 = some (o_ibin (fun x y => x + y)) := (m_109 879).trans rfl
set_option maxRecDepth 20000 in
theorem t_109_880 {Ls : Nat} {xs : Nat → Int32} : am_tbl Ls xs 109 880 = some (o_sld Ls xs) := (m_109 880).trans rfl
set_option maxRecDepth 20000 in
theorem t_109_881 {Ls : Nat} {xs : Nat → Int32} : am_tbl Ls xs 109 881 = some (o_callv 66 2 9 3) := (m_109 881).trans rfl
set_option maxRecDepth 20000 in
theorem t_109_884 {Ls : Nat} {xs : Nat → Int32} : am_tbl Ls xs 109 884 = some (o_icmp (fun x y => decide (x = y)) 1060) := (m_109 884).trans rfl
set_option maxRecDepth 20000 in
theorem t_109_887 {Ls : Nat} {xs : Nat → Int32} : am_tbl Ls xs 109 887 = some (o_push (.int 0) 1) := (m_109 887).trans rfl
set_option maxRecDepth 20000 in
theorem t_109_888 {Ls : Nat} {xs : Nat → Int32} : am_tbl Ls xs 109 888 = some (o_zret) := (m_109 888).trans rfl
set_option maxRecDepth 20000 in
theorem t_109_889 {Ls : Nat} {xs : Nat → Int32} : am_tbl Ls xs 109 889 = some (o_aload 1 1) := (m_109 889).trans rfl
set_option maxRecDepth 20000 in
theorem t_109_890 {Ls : Nat} {xs : Nat → Int32} : am_tbl Ls xs 109 890 = some (o_aload 0 1) := (m_109 890).trans rfl
set_option maxRecDepth 20000 in
theorem t_109_891 {Ls : Nat} {xs : Nat → Int32} : am_tbl Ls xs 109 891 = some (o_iload 3 1) := (m_109 891).trans rfl
set_option maxRecDepth 20000 in
theorem t_109_892 {Ls : Nat} {xs : Nat → Int32} : am_tbl Ls xs 109 892 = some (o_push (.int 1) 1) := (m_109 892).trans rfl
set_option maxRecDepth 20000 in
theorem t_109_893 {Ls : Nat} {xs : Nat → Int32} : am_tbl Ls xs 109 893 = some (o_ibin (fun x y => x + y)) := (m_109 893).trans rfl
set_option maxRecDepth 20000 in
theorem t_109_894 {Ls : Nat} {xs : Nat → Int32} : am_tbl Ls xs 109 894 = some (o_sld Ls xs) := (m_109 894).trans rfl
set_option maxRecDepth 20000 in
theorem t_109_895 {Ls : Nat} {xs : Nat → Int32} : am_tbl Ls xs 109 895 = some (o_aload 0 1) := (m_109 895).trans rfl
set_option maxRecDepth 20000 in
theorem t_109_896 {Ls : Nat} {xs : Nat → Int32} : am_tbl Ls xs 109 896 = some (o_iload 3 1) := (m_109 896).trans rfl
set_option maxRecDepth 20000 in
theorem t_109_897 {Ls : Nat} {xs : Nat → Int32} : am_tbl Ls xs 109 897 = some (o_push (.int 2) 1) := (m_109 897).trans rfl
set_option maxRecDepth 20000 in
theorem t_109_898 {Ls : Nat} {xs : Nat → Int32} : am_tbl Ls xs 109 898 = some (o_ibin (fun x y => x + y)) := (m_109 898).trans rfl
set_option maxRecDepth 20000 in
theorem t_109_899 {Ls : Nat} {xs : Nat → Int32} : am_tbl Ls xs 109 899 = some (o_sld Ls xs) := (m_109 899).trans rfl
set_option maxRecDepth 20000 in
theorem t_109_900 {Ls : Nat} {xs : Nat → Int32} : am_tbl Ls xs 109 900 = some (o_callv 97 2 8 3) := (m_109 900).trans rfl
set_option maxRecDepth 20000 in
theorem t_109_903 {Ls : Nat} {xs : Nat → Int32} : am_tbl Ls xs 109 903 = some (o_aload 2 1) := (m_109 903).trans rfl
set_option maxRecDepth 20000 in
theorem t_109_904 {Ls : Nat} {xs : Nat → Int32} : am_tbl Ls xs 109 904 = some (o_aload 0 1) := (m_109 904).trans rfl
set_option maxRecDepth 20000 in
theorem t_109_905 {Ls : Nat} {xs : Nat → Int32} : am_tbl Ls xs 109 905 = some (o_iload 3 1) := (m_109 905).trans rfl
set_option maxRecDepth 20000 in
theorem t_109_906 {Ls : Nat} {xs : Nat → Int32} : am_tbl Ls xs 109 906 = some (o_push (.int 1) 1) := (m_109 906).trans rfl
set_option maxRecDepth 20000 in
theorem t_109_907 {Ls : Nat} {xs : Nat → Int32} : am_tbl Ls xs 109 907 = some (o_ibin (fun x y => x + y)) := (m_109 907).trans rfl
set_option maxRecDepth 20000 in
theorem t_109_908 {Ls : Nat} {xs : Nat → Int32} : am_tbl Ls xs 109 908 = some (o_sld Ls xs) := (m_109 908).trans rfl
set_option maxRecDepth 20000 in
theorem t_109_909 {Ls : Nat} {xs : Nat → Int32} : am_tbl Ls xs 109 909 = some (o_aload 0 1) := (m_109 909).trans rfl
set_option maxRecDepth 20000 in
theorem t_109_910 {Ls : Nat} {xs : Nat → Int32} : am_tbl Ls xs 109 910 = some (o_iload 3 1) := (m_109 910).trans rfl
set_option maxRecDepth 20000 in
theorem t_109_911 {Ls : Nat} {xs : Nat → Int32} : am_tbl Ls xs 109 911 = some (o_push (.int 2) 1) := (m_109 911).trans rfl
set_option maxRecDepth 20000 in
theorem t_109_912 {Ls : Nat} {xs : Nat → Int32} : am_tbl Ls xs 109 912 = some (o_ibin (fun x y => x + y)) := (m_109 912).trans rfl
set_option maxRecDepth 20000 in
theorem t_109_913 {Ls : Nat} {xs : Nat → Int32} : am_tbl Ls xs 109 913 = some (o_sld Ls xs) := (m_109 913).trans rfl
set_option maxRecDepth 20000 in
theorem t_109_914 {Ls : Nat} {xs : Nat → Int32} : am_tbl Ls xs 109 914 = some (o_callv 68 2 9 7) := (m_109 914).trans rfl
set_option maxRecDepth 20000 in
theorem t_109_917 {Ls : Nat} {xs : Nat → Int32} : am_tbl Ls xs 109 917 = some (o_icmp (fun x y => decide (x = y)) 1060) := (m_109 917).trans rfl
set_option maxRecDepth 20000 in
theorem t_109_920 {Ls : Nat} {xs : Nat → Int32} : am_tbl Ls xs 109 920 = some (o_push (.int 0) 1) := (m_109 920).trans rfl
set_option maxRecDepth 20000 in
theorem t_109_921 {Ls : Nat} {xs : Nat → Int32} : am_tbl Ls xs 109 921 = some (o_zret) := (m_109 921).trans rfl
set_option maxRecDepth 20000 in
theorem t_109_922 {Ls : Nat} {xs : Nat → Int32} : am_tbl Ls xs 109 922 = some (o_aload 1 1) := (m_109 922).trans rfl
set_option maxRecDepth 20000 in
theorem t_109_923 {Ls : Nat} {xs : Nat → Int32} : am_tbl Ls xs 109 923 = some (o_aload 0 1) := (m_109 923).trans rfl
set_option maxRecDepth 20000 in
theorem t_109_924 {Ls : Nat} {xs : Nat → Int32} : am_tbl Ls xs 109 924 = some (o_iload 3 1) := (m_109 924).trans rfl
set_option maxRecDepth 20000 in
theorem t_109_925 {Ls : Nat} {xs : Nat → Int32} : am_tbl Ls xs 109 925 = some (o_push (.int 1) 1) := (m_109 925).trans rfl
set_option maxRecDepth 20000 in
theorem t_109_926 {Ls : Nat} {xs : Nat → Int32} : am_tbl Ls xs 109 926 = some (o_ibin (fun x y => x + y)) := (m_109 926).trans rfl
set_option maxRecDepth 20000 in
theorem t_109_927 {Ls : Nat} {xs : Nat → Int32} : am_tbl Ls xs 109 927 = some (o_sld Ls xs) := (m_109 927).trans rfl
set_option maxRecDepth 20000 in
theorem t_109_928 {Ls : Nat} {xs : Nat → Int32} : am_tbl Ls xs 109 928 = some (o_aload 0 1) := (m_109 928).trans rfl
set_option maxRecDepth 20000 in
theorem t_109_929 {Ls : Nat} {xs : Nat → Int32} : am_tbl Ls xs 109 929 = some (o_iload 3 1) := (m_109 929).trans rfl
set_option maxRecDepth 20000 in
theorem t_109_930 {Ls : Nat} {xs : Nat → Int32} : am_tbl Ls xs 109 930 = some (o_push (.int 2) 1) := (m_109 930).trans rfl
set_option maxRecDepth 20000 in
theorem t_109_931 {Ls : Nat} {xs : Nat → Int32} : am_tbl Ls xs 109 931 = some (o_ibin (fun x y => x + y)) := (m_109 931).trans rfl
set_option maxRecDepth 20000 in
theorem t_109_932 {Ls : Nat} {xs : Nat → Int32} : am_tbl Ls xs 109 932 = some (o_sld Ls xs) := (m_109 932).trans rfl
set_option maxRecDepth 20000 in
theorem t_109_933 {Ls : Nat} {xs : Nat → Int32} : am_tbl Ls xs 109 933 = some (o_aload 0 1) := (m_109 933).trans rfl
set_option maxRecDepth 20000 in
theorem t_109_934 {Ls : Nat} {xs : Nat → Int32} : am_tbl Ls xs 109 934 = some (o_iload 3 1) := (m_109 934).trans rfl
set_option maxRecDepth 20000 in
theorem t_109_935 {Ls : Nat} {xs : Nat → Int32} : am_tbl Ls xs 109 935 = some (o_push (.int 3) 1) := (m_109 935).trans rfl
set_option maxRecDepth 20000 in
theorem t_109_936 {Ls : Nat} {xs : Nat → Int32} : am_tbl Ls xs 109 936 = some (o_ibin (fun x y => x + y)) := (m_109 936).trans rfl
set_option maxRecDepth 20000 in
theorem t_109_937 {Ls : Nat} {xs : Nat → Int32} : am_tbl Ls xs 109 937 = some (o_sld Ls xs) := (m_109 937).trans rfl
set_option maxRecDepth 20000 in
theorem t_109_938 {Ls : Nat} {xs : Nat → Int32} : am_tbl Ls xs 109 938 = some (o_callv 98 3 8 4) := (m_109 938).trans rfl
set_option maxRecDepth 20000 in
theorem t_109_941 {Ls : Nat} {xs : Nat → Int32} : am_tbl Ls xs 109 941 = some (o_aload 2 1) := (m_109 941).trans rfl
set_option maxRecDepth 20000 in
theorem t_109_942 {Ls : Nat} {xs : Nat → Int32} : am_tbl Ls xs 109 942 = some (o_aload 0 1) := (m_109 942).trans rfl
set_option maxRecDepth 20000 in
theorem t_109_943 {Ls : Nat} {xs : Nat → Int32} : am_tbl Ls xs 109 943 = some (o_iload 3 1) := (m_109 943).trans rfl
set_option maxRecDepth 20000 in
theorem t_109_944 {Ls : Nat} {xs : Nat → Int32} : am_tbl Ls xs 109 944 = some (o_push (.int 1) 1) := (m_109 944).trans rfl
set_option maxRecDepth 20000 in
theorem t_109_945 {Ls : Nat} {xs : Nat → Int32} : am_tbl Ls xs 109 945 = some (o_ibin (fun x y => x + y)) := (m_109 945).trans rfl
set_option maxRecDepth 20000 in
theorem t_109_946 {Ls : Nat} {xs : Nat → Int32} : am_tbl Ls xs 109 946 = some (o_sld Ls xs) := (m_109 946).trans rfl
set_option maxRecDepth 20000 in
theorem t_109_947 {Ls : Nat} {xs : Nat → Int32} : am_tbl Ls xs 109 947 = some (o_aload 0 1) := (m_109 947).trans rfl
set_option maxRecDepth 20000 in
theorem t_109_948 {Ls : Nat} {xs : Nat → Int32} : am_tbl Ls xs 109 948 = some (o_iload 3 1) := (m_109 948).trans rfl
set_option maxRecDepth 20000 in
theorem t_109_949 {Ls : Nat} {xs : Nat → Int32} : am_tbl Ls xs 109 949 = some (o_push (.int 2) 1) := (m_109 949).trans rfl
set_option maxRecDepth 20000 in
theorem t_109_950 {Ls : Nat} {xs : Nat → Int32} : am_tbl Ls xs 109 950 = some (o_ibin (fun x y => x + y)) := (m_109 950).trans rfl
set_option maxRecDepth 20000 in
theorem t_109_951 {Ls : Nat} {xs : Nat → Int32} : am_tbl Ls xs 109 951 = some (o_sld Ls xs) := (m_109 951).trans rfl
set_option maxRecDepth 20000 in
theorem t_109_952 {Ls : Nat} {xs : Nat → Int32} : am_tbl Ls xs 109 952 = some (o_aload 0 1) := (m_109 952).trans rfl
set_option maxRecDepth 20000 in
theorem t_109_953 {Ls : Nat} {xs : Nat → Int32} : am_tbl Ls xs 109 953 = some (o_iload 3 1) := (m_109 953).trans rfl
set_option maxRecDepth 20000 in
theorem t_109_954 {Ls : Nat} {xs : Nat → Int32} : am_tbl Ls xs 109 954 = some (o_push (.int 3) 1) := (m_109 954).trans rfl
set_option maxRecDepth 20000 in
theorem t_109_955 {Ls : Nat} {xs : Nat → Int32} : am_tbl Ls xs 109 955 = some (o_ibin (fun x y => x + y)) := (m_109 955).trans rfl
set_option maxRecDepth 20000 in
theorem t_109_956 {Ls : Nat} {xs : Nat → Int32} : am_tbl Ls xs 109 956 = some (o_sld Ls xs) := (m_109 956).trans rfl
set_option maxRecDepth 20000 in
theorem t_109_957 {Ls : Nat} {xs : Nat → Int32} : am_tbl Ls xs 109 957 = some (o_callv 69 3 9 4) := (m_109 957).trans rfl
set_option maxRecDepth 20000 in
theorem t_109_960 {Ls : Nat} {xs : Nat → Int32} : am_tbl Ls xs 109 960 = some (o_icmp (fun x y => decide (x = y)) 1060) := (m_109 960).trans rfl
set_option maxRecDepth 20000 in
theorem t_109_963 {Ls : Nat} {xs : Nat → Int32} : am_tbl Ls xs 109 963 = some (o_push (.int 0) 1) := (m_109 963).trans rfl
set_option maxRecDepth 20000 in
theorem t_109_964 {Ls : Nat} {xs : Nat → Int32} : am_tbl Ls xs 109 964 = some (o_zret) := (m_109 964).trans rfl
set_option maxRecDepth 20000 in
theorem t_109_965 {Ls : Nat} {xs : Nat → Int32} : am_tbl Ls xs 109 965 = some (o_aload 1 1) := (m_109 965).trans rfl
set_option maxRecDepth 20000 in
theorem t_109_966 {Ls : Nat} {xs : Nat → Int32} : am_tbl Ls xs 109 966 = some (o_callv 99 0 8 2) := (m_109 966).trans rfl
set_option maxRecDepth 20000 in
theorem t_109_969 {Ls : Nat} {xs : Nat → Int32} : am_tbl Ls xs 109 969 = some (o_aload 2 1) := (m_109 969).trans rfl
set_option maxRecDepth 20000 in
theorem t_109_970 {Ls : Nat} {xs : Nat → Int32} : am_tbl Ls xs 109 970 = some (o_callv 70 0 9 2) := (m_109 970).trans rfl
set_option maxRecDepth 20000 in
theorem t_109_973 {Ls : Nat} {xs : Nat → Int32} : am_tbl Ls xs 109 973 = some (o_icmp (fun x y => decide (x = y)) 1060) := (m_109 973).trans rfl
set_option maxRecDepth 20000 in
theorem t_109_976 {Ls : Nat} {xs : Nat → Int32} : am_tbl Ls xs 109 976 = some (o_push (.int 0) 1) := (m_109 976).trans rfl
set_option maxRecDepth 20000 in
theorem t_109_977 {Ls : Nat} {xs : Nat → Int32} : am_tbl Ls xs 109 977 = some (o_zret) := (m_109 977).trans rfl
set_option maxRecDepth 20000 in
theorem t_109_978 {Ls : Nat} {xs : Nat → Int32} : am_tbl Ls xs 109 978 = some (o_aload 1 1) := (m_109 978).trans rfl
set_option maxRecDepth 20000 in
theorem t_109_979 {Ls : Nat} {xs : Nat → Int32} : am_tbl Ls xs 109 979 = some (o_callv 100 0 8 4) := (m_109 979).trans rfl
set_option maxRecDepth 20000 in
theorem t_109_982 {Ls : Nat} {xs : Nat → Int32} : am_tbl Ls xs 109 982 = some (o_aload 2 1) := (m_109 982).trans rfl
set_option maxRecDepth 20000 in
theorem t_109_983 {Ls : Nat} {xs : Nat → Int32} : am_tbl Ls xs 109 983 = some (o_callv 71 0 9 2) := (m_109 983).trans rfl
set_option maxRecDepth 20000 in
theorem t_109_986 {Ls : Nat} {xs : Nat → Int32} : am_tbl Ls xs 109 986 = some (o_icmp (fun x y => decide (x = y)) 1060) := (m_109 986).trans rfl
set_option maxRecDepth 20000 in
theorem t_109_989 {Ls : Nat} {xs : Nat → Int32} : am_tbl Ls xs 109 989 = some (o_push (.int 0) 1) := (m_109 989).trans rfl
set_option maxRecDepth 20000 in
theorem t_109_990 {Ls : Nat} {xs : Nat → Int32} : am_tbl Ls xs 109 990 = some (o_zret) := (m_109 990).trans rfl
set_option maxRecDepth 20000 in
theorem t_109_991 {Ls : Nat} {xs : Nat → Int32} : am_tbl Ls xs 109 991 = some (o_aload 1 1) := (m_109 991).trans rfl
set_option maxRecDepth 20000 in
theorem t_109_992 {Ls : Nat} {xs : Nat → Int32} : am_tbl Ls xs 109 992 = some (o_aload 0 1) := (m_109 992).trans rfl
set_option maxRecDepth 20000 in
theorem t_109_993 {Ls : Nat} {xs : Nat → Int32} : am_tbl Ls xs 109 993 = some (o_iload 3 1) := (m_109 993).trans rfl
set_option maxRecDepth 20000 in
theorem t_109_994 {Ls : Nat} {xs : Nat → Int32} : am_tbl Ls xs 109 994 = some (o_push (.int 1) 1) := (m_109 994).trans rfl
set_option maxRecDepth 20000 in
theorem t_109_995 {Ls : Nat} {xs : Nat → Int32} : am_tbl Ls xs 109 995 = some (o_ibin (fun x y => x + y)) := (m_109 995).trans rfl
set_option maxRecDepth 20000 in
theorem t_109_996 {Ls : Nat} {xs : Nat → Int32} : am_tbl Ls xs 109 996 = some (o_sld Ls xs) := (m_109 996).trans rfl
set_option maxRecDepth 20000 in
theorem t_109_997 {Ls : Nat} {xs : Nat → Int32} : am_tbl Ls xs 109 997 = some (o_callv 101 1 8 3) := (m_109 997).trans rfl
set_option maxRecDepth 20000 in
theorem t_109_1000 {Ls : Nat} {xs : Nat → Int32} : am_tbl Ls xs 109 1000 = some (o_aload 2 1) := (m_109 1000).trans rfl
set_option maxRecDepth 20000 in
theorem t_109_1001 {Ls : Nat} {xs : Nat → Int32} : am_tbl Ls xs 109 1001 = some (o_aload 0 1) := (m_109 1001).trans rfl
set_option maxRecDepth 20000 in
theorem t_109_1002 {Ls : Nat} {xs : Nat → Int32} : am_tbl Ls xs 109 1002 = some (o_iload 3 1) := (m_109 1002).trans rfl
set_option maxRecDepth 20000 in
theorem t_109_1003 {Ls : Nat} {xs : Nat → Int32} : am_tbl Ls xs 109 1003 = some (o_push (.int 1) 1) := (m_109 1003).trans rfl
set_option maxRecDepth 20000 in
theorem t_109_1004 {Ls : Nat} {xs : Nat → Int32} : am_tbl Ls xs 109 1004 = some (o_ibin (fun x y => x + y)) := (m_109 1004).trans rfl
set_option maxRecDepth 20000 in
theorem t_109_1005 {Ls : Nat} {xs : Nat → Int32} : am_tbl Ls xs 109 1005 = some (o_sld Ls xs) := (m_109 1005).trans rfl
set_option maxRecDepth 20000 in
theorem t_109_1006 {Ls : Nat} {xs : Nat → Int32} : am_tbl Ls xs 109 1006 = some (o_callv 72 1 9 3) := (m_109 1006).trans rfl
set_option maxRecDepth 20000 in
theorem t_109_1009 {Ls : Nat} {xs : Nat → Int32} : am_tbl Ls xs 109 1009 = some (o_icmp (fun x y => decide (x = y)) 1060) := (m_109 1009).trans rfl
set_option maxRecDepth 20000 in
theorem t_109_1012 {Ls : Nat} {xs : Nat → Int32} : am_tbl Ls xs 109 1012 = some (o_push (.int 0) 1) := (m_109 1012).trans rfl
set_option maxRecDepth 20000 in
theorem t_109_1013 {Ls : Nat} {xs : Nat → Int32} : am_tbl Ls xs 109 1013 = some (o_zret) := (m_109 1013).trans rfl
set_option maxRecDepth 20000 in
theorem t_109_1014 {Ls : Nat} {xs : Nat → Int32} : am_tbl Ls xs 109 1014 = some (o_aload 1 1) := (m_109 1014).trans rfl
set_option maxRecDepth 20000 in
theorem t_109_1015 {Ls : Nat} {xs : Nat → Int32} : am_tbl Ls xs 109 1015 = some (o_aload 0 1) := (m_109 1015).trans rfl
set_option maxRecDepth 20000 in
theorem t_109_1016 {Ls : Nat} {xs : Nat → Int32} : am_tbl Ls xs 109 1016 = some (o_iload 3 1) := (m_109 1016).trans rfl
set_option maxRecDepth 20000 in
theorem t_109_1017 {Ls : Nat} {xs : Nat → Int32} : am_tbl Ls xs 109 1017 = some (o_push (.int 1) 1) := (m_109 1017).trans rfl
set_option maxRecDepth 20000 in
theorem t_109_1018 {Ls : Nat} {xs : Nat → Int32} : am_tbl Ls xs 109 1018 = some (o_ibin (fun x y => x + y)) := (m_109 1018).trans rfl
set_option maxRecDepth 20000 in
theorem t_109_1019 {Ls : Nat} {xs : Nat → Int32} : am_tbl Ls xs 109 1019 = some (o_sld Ls xs) := (m_109 1019).trans rfl
set_option maxRecDepth 20000 in
theorem t_109_1020 {Ls : Nat} {xs : Nat → Int32} : am_tbl Ls xs 109 1020 = some (o_callv 102 1 8 2) := (m_109 1020).trans rfl
set_option maxRecDepth 20000 in
theorem t_109_1023 {Ls : Nat} {xs : Nat → Int32} : am_tbl Ls xs 109 1023 = some (o_aload 2 1) := (m_109 1023).trans rfl
set_option maxRecDepth 20000 in
theorem t_109_1024 {Ls : Nat} {xs : Nat → Int32} : am_tbl Ls xs 109 1024 = some (o_aload 0 1) := (m_109 1024).trans rfl
set_option maxRecDepth 20000 in
theorem t_109_1025 {Ls : Nat} {xs : Nat → Int32} : am_tbl Ls xs 109 1025 = some (o_iload 3 1) := (m_109 1025).trans rfl
set_option maxRecDepth 20000 in
theorem t_109_1026 {Ls : Nat} {xs : Nat → Int32} : am_tbl Ls xs 109 1026 = some (o_push (.int 1) 1) := (m_109 1026).trans rfl
set_option maxRecDepth 20000 in
theorem t_109_1027 {Ls : Nat} {xs : Nat → Int32} : am_tbl Ls xs 109 1027 = some (o_ibin (fun x y => x + y)) := (m_109 1027).trans rfl
set_option maxRecDepth 20000 in
theorem t_109_1028 {Ls : Nat} {xs : Nat → Int32} : am_tbl Ls xs 109 1028 = some (o_sld Ls xs) := (m_109 1028).trans rfl
set_option maxRecDepth 20000 in
theorem t_109_1029 {Ls : Nat} {xs : Nat → Int32} : am_tbl Ls xs 109 1029 = some (o_callv 73 1 9 4) := (m_109 1029).trans rfl
set_option maxRecDepth 20000 in
theorem t_109_1032 {Ls : Nat} {xs : Nat → Int32} : am_tbl Ls xs 109 1032 = some (o_icmp (fun x y => decide (x = y)) 1060) := (m_109 1032).trans rfl
set_option maxRecDepth 20000 in
theorem t_109_1035 {Ls : Nat} {xs : Nat → Int32} : am_tbl Ls xs 109 1035 = some (o_push (.int 0) 1) := (m_109 1035).trans rfl
set_option maxRecDepth 20000 in
theorem t_109_1036 {Ls : Nat} {xs : Nat → Int32} : am_tbl Ls xs 109 1036 = some (o_zret) := (m_109 1036).trans rfl
set_option maxRecDepth 20000 in
theorem t_109_1037 {Ls : Nat} {xs : Nat → Int32} : am_tbl Ls xs 109 1037 = some (o_aload 1 1) := (m_109 1037).trans rfl
set_option maxRecDepth 20000 in
theorem t_109_1038 {Ls : Nat} {xs : Nat → Int32} : am_tbl Ls xs 109 1038 = some (o_aload 0 1) := (m_109 1038).trans rfl
set_option maxRecDepth 20000 in
theorem t_109_1039 {Ls : Nat} {xs : Nat → Int32} : am_tbl Ls xs 109 1039 = some (o_iload 3 1) := (m_109 1039).trans rfl
set_option maxRecDepth 20000 in
theorem t_109_1040 {Ls : Nat} {xs : Nat → Int32} : am_tbl Ls xs 109 1040 = some (o_push (.int 1) 1) := (m_109 1040).trans rfl
set_option maxRecDepth 20000 in
theorem t_109_1041 {Ls : Nat} {xs : Nat → Int32} : am_tbl Ls xs 109 1041 = some (o_ibin (fun x y => x + y)) := (m_109 1041).trans rfl
set_option maxRecDepth 20000 in
theorem t_109_1042 {Ls : Nat} {xs : Nat → Int32} : am_tbl Ls xs 109 1042 = some (o_sld Ls xs) := (m_109 1042).trans rfl
set_option maxRecDepth 20000 in
theorem t_109_1043 {Ls : Nat} {xs : Nat → Int32} : am_tbl Ls xs 109 1043 = some (o_callv 103 1 8 2) := (m_109 1043).trans rfl
set_option maxRecDepth 20000 in
theorem t_109_1046 {Ls : Nat} {xs : Nat → Int32} : am_tbl Ls xs 109 1046 = some (o_aload 2 1) := (m_109 1046).trans rfl
set_option maxRecDepth 20000 in
theorem t_109_1047 {Ls : Nat} {xs : Nat → Int32} : am_tbl Ls xs 109 1047 = some (o_aload 0 1) := (m_109 1047).trans rfl
set_option maxRecDepth 20000 in
theorem t_109_1048 {Ls : Nat} {xs : Nat → Int32} : am_tbl Ls xs 109 1048 = some (o_iload 3 1) := (m_109 1048).trans rfl
set_option maxRecDepth 20000 in
theorem t_109_1049 {Ls : Nat} {xs : Nat → Int32} : am_tbl Ls xs 109 1049 = some (o_push (.int 1) 1) := (m_109 1049).trans rfl
set_option maxRecDepth 20000 in
theorem t_109_1050 {Ls : Nat} {xs : Nat → Int32} : am_tbl Ls xs 109 1050 = some (o_ibin (fun x y => x + y)) := (m_109 1050).trans rfl
set_option maxRecDepth 20000 in
theorem t_109_1051 {Ls : Nat} {xs : Nat → Int32} : am_tbl Ls xs 109 1051 = some (o_sld Ls xs) := (m_109 1051).trans rfl
set_option maxRecDepth 20000 in
theorem t_109_1052 {Ls : Nat} {xs : Nat → Int32} : am_tbl Ls xs 109 1052 = some (o_callv 74 1 9 4) := (m_109 1052).trans rfl
set_option maxRecDepth 20000 in
theorem t_109_1055 {Ls : Nat} {xs : Nat → Int32} : am_tbl Ls xs 109 1055 = some (o_icmp (fun x y => decide (x = y)) 1060) := (m_109 1055).trans rfl
set_option maxRecDepth 20000 in
theorem t_109_1058 {Ls : Nat} {xs : Nat → Int32} : am_tbl Ls xs 109 1058 = some (o_push (.int 0) 1) := (m_109 1058).trans rfl
set_option maxRecDepth 20000 in
theorem t_109_1059 {Ls : Nat} {xs : Nat → Int32} : am_tbl Ls xs 109 1059 = some (o_zret) := (m_109 1059).trans rfl
set_option maxRecDepth 20000 in
theorem t_109_1060 {Ls : Nat} {xs : Nat → Int32} : am_tbl Ls xs 109 1060 = some (o_nrm [0, 1, 2, 3] (o_iinc 3 5)) := (m_109 1060).trans rfl
set_option maxRecDepth 20000 in
theorem t_109_1063 {Ls : Nat} {xs : Nat → Int32} : am_tbl Ls xs 109 1063 = some (o_goto 18) := (m_109 1063).trans rfl
set_option maxRecDepth 20000 in
theorem t_109_1066 {Ls : Nat} {xs : Nat → Int32} : am_tbl Ls xs 109 1066 = some (o_push (.int 1) 1) := (m_109 1066).trans rfl
set_option maxRecDepth 20000 in
theorem t_109_1067 {Ls : Nat} {xs : Nat → Int32} : am_tbl Ls xs 109 1067 = some (o_zret) := (m_109 1067).trans rfl
