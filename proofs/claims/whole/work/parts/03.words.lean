/-! THE TABLES' WORDS that go on to callees, and where each stands -/
def gws : List Cond := lw_tbl.filter goodWord
theorem tm (i : Nat) {w : Cond} (h : tables_1[i]? = some w) (g : goodWord w = true) : w ∈ gws := List.mem_filter.mpr ⟨List.mem_append_right _ (List.mem_of_getElem? h), g⟩
theorem tmS {q : MethodName × Nat} (h : q ∈ lw_privs) : Cond.selects q.1.cls q.1 q.1 ∈ gws := List.mem_filter.mpr ⟨List.mem_append_left _ (List.mem_map.mpr ⟨q, h, rfl⟩), rfl⟩
theorem gws_tbl : ∀ w ∈ gws, w ∈ lw_tbl := fun _ h => (List.mem_filter.mp h).1
theorem gws_good : GoodIn gws gws := fun _ h => ⟨h, good_of_word (List.mem_filter.mp h).2⟩
/-- a method's words: its own code, and all of these -/
def wz (y : MethodName) (b : ByteArray) (n : Nat) (r : Option FieldType) : List Cond := .code y b n r :: gws
theorem wz_good {y : MethodName} {b : ByteArray} {n : Nat} {r : Option FieldType} (h : Cond.code y b n r ∈ gws) : GoodIn gws (wz y b n r) := fun w hw => (List.mem_cons.mp hw).elim (fun e => by rw [e]; exact gws_good _ h) (fun e => gws_good w e)
theorem w_Big : ∀ w ∈ u_ws R_Big F_Big 2, w ∈ gws := by
  have h : ∀ w ∈ u_ws R_Big F_Big 2, w ∈ tables_1 ∧ goodWord w = true := by decide +kernel
  exact fun w hw => List.mem_filter.mpr ⟨List.mem_append_right _ (h w hw).1, (h w hw).2⟩
theorem w_Dec : ∀ w ∈ u_ws R_Dec F_Dec 5, w ∈ gws := by
  have h : ∀ w ∈ u_ws R_Dec F_Dec 5, w ∈ tables_1 ∧ goodWord w = true := by decide +kernel
  exact fun w hw => List.mem_filter.mpr ⟨List.mem_append_right _ (h w hw).1, (h w hw).2⟩
theorem w_Fra : ∀ w ∈ u_ws R_Fra F_Fra 2, w ∈ gws := by
  have h : ∀ w ∈ u_ws R_Fra F_Fra 2, w ∈ tables_1 ∧ goodWord w = true := by decide +kernel
  exact fun w hw => List.mem_filter.mpr ⟨List.mem_append_right _ (h w hw).1, (h w hw).2⟩
theorem w_Num : ∀ w ∈ u_ws R_Num F_Num 8, w ∈ gws := by
  have h : ∀ w ∈ u_ws R_Num F_Num 8, w ∈ tables_1 ∧ goodWord w = true := by decide +kernel
  exact fun w hw => List.mem_filter.mpr ⟨List.mem_append_right _ (h w hw).1, (h w hw).2⟩
theorem w_Rea : ∀ w ∈ u_ws R_Rea F_Rea 7, w ∈ gws := by
  have h : ∀ w ∈ u_ws R_Rea F_Rea 7, w ∈ tables_1 ∧ goodWord w = true := by decide +kernel
  exact fun w hw => List.mem_filter.mpr ⟨List.mem_append_right _ (h w hw).1, (h w hw).2⟩
theorem w_Mod : ∀ w ∈ u_ws R_Mod F_Mod 8, w ∈ gws := by
  have h : ∀ w ∈ u_ws R_Mod F_Mod 8, w ∈ tables_1 ∧ goodWord w = true := by decide +kernel
  exact fun w hw => List.mem_filter.mpr ⟨List.mem_append_right _ (h w hw).1, (h w hw).2⟩
set_option maxRecDepth 100000 in
theorem kC_Rea_init : Cond.code y_Rea_init b_Rea_init 1 none ∈ gws := tm 18 rfl rfl
theorem kI_Rea_init : Cond.instanceMethod y_Rea_init ∈ gws := tm 17 (by decide +kernel) rfl
set_option maxRecDepth 100000 in
theorem kC_Num_init : Cond.code y_Num_init b_Num_init 1 none ∈ gws := tm 26 rfl rfl
theorem kI_Num_init : Cond.instanceMethod y_Num_init ∈ gws := tm 25 (by decide +kernel) rfl
set_option maxRecDepth 100000 in
theorem kC_Dec_init : Cond.code y_Dec_init b_Dec_init 1 none ∈ gws := tm 68 rfl rfl
theorem kI_Dec_init : Cond.instanceMethod y_Dec_init ∈ gws := tm 67 (by decide +kernel) rfl
set_option maxRecDepth 100000 in
theorem kC_Fra_init : Cond.code y_Fra_init b_Fra_init 1 none ∈ gws := tm 74 rfl rfl
theorem kI_Fra_init : Cond.instanceMethod y_Fra_init ∈ gws := tm 73 (by decide +kernel) rfl
set_option maxRecDepth 100000 in
theorem kC_Big_init : Cond.code y_Big_init b_Big_init 1 none ∈ gws := tm 80 rfl rfl
theorem kI_Big_init : Cond.instanceMethod y_Big_init ∈ gws := tm 79 (by decide +kernel) rfl
set_option maxRecDepth 100000 in
theorem kC_Rea_write : Cond.code y_Rea_write b_Rea_write 5 (some .boolean) ∈ gws := tm 143 rfl rfl
theorem kI_Rea_write : Cond.instanceMethod y_Rea_write ∈ gws := tm 141 (by decide +kernel) rfl
theorem kS_Rea_write : Cond.selects R_Rea y_Rea_write y_Rea_write ∈ gws := tm 142 (by decide +kernel) rfl
set_option maxRecDepth 100000 in
theorem kC_Rea_countCharacters : Cond.code y_Rea_countCharacters b_Rea_countCharacters 4 (some .int) ∈ gws := tm 146 rfl rfl
theorem kT_Rea_countCharacters : Cond.static y_Rea_countCharacters ∈ gws := tm 145 (by decide +kernel) rfl
set_option maxRecDepth 100000 in
theorem kC_Rea_keep : Cond.code y_Rea_keep b_Rea_keep 2 (some .boolean) ∈ gws := tm 151 rfl rfl
theorem kI_Rea_keep : Cond.instanceMethod y_Rea_keep ∈ gws := tm 149 (by decide +kernel) rfl
theorem kS_Rea_keep : Cond.selects R_Rea y_Rea_keep y_Rea_keep ∈ gws := tm 150 (by decide +kernel) rfl
set_option maxRecDepth 100000 in
theorem kC_Rea_length : Cond.code y_Rea_length b_Rea_length 1 (some .int) ∈ gws := tm 155 rfl rfl
theorem kI_Rea_length : Cond.instanceMethod y_Rea_length ∈ gws := tm 153 (by decide +kernel) rfl
theorem kS_Rea_length : Cond.selects R_Rea y_Rea_length y_Rea_length ∈ gws := tm 154 (by decide +kernel) rfl
set_option maxRecDepth 100000 in
theorem kC_Rea_wide : Cond.code y_Rea_wide b_Rea_wide 1 (some .boolean) ∈ gws := tm 159 rfl rfl
theorem kI_Rea_wide : Cond.instanceMethod y_Rea_wide ∈ gws := tm 157 (by decide +kernel) rfl
theorem kS_Rea_wide : Cond.selects R_Rea y_Rea_wide y_Rea_wide ∈ gws := tm 158 (by decide +kernel) rfl
set_option maxRecDepth 100000 in
theorem kC_Rea_readAs : Cond.code y_Rea_readAs b_Rea_readAs 2 (some .boolean) ∈ gws := tm 165 rfl rfl
theorem kI_Rea_readAs : Cond.instanceMethod y_Rea_readAs ∈ gws := tm 164 (by decide +kernel) rfl
theorem kS_Rea_readAs : Cond.selects R_Rea y_Rea_readAs y_Rea_readAs ∈ gws := tmS (q := (y_Rea_readAs, 7)) (by decide +kernel)
set_option maxRecDepth 100000 in
theorem kC_Num_findIn : Cond.code y_Num_findIn b_Num_findIn 2 (some .boolean) ∈ gws := tm 169 rfl rfl
theorem kI_Num_findIn : Cond.instanceMethod y_Num_findIn ∈ gws := tm 167 (by decide +kernel) rfl
theorem kS_Num_findIn : Cond.selects R_Num y_Num_findIn y_Num_findIn ∈ gws := tm 168 (by decide +kernel) rfl
set_option maxRecDepth 100000 in
theorem kC_Num_trim : Cond.code y_Num_trim b_Num_trim 2 none ∈ gws := tm 173 rfl rfl
theorem kI_Num_trim : Cond.instanceMethod y_Num_trim ∈ gws := tm 172 (by decide +kernel) rfl
theorem kS_Num_trim : Cond.selects R_Num y_Num_trim y_Num_trim ∈ gws := tmS (q := (y_Num_trim, 8)) (by decide +kernel)
set_option maxRecDepth 100000 in
theorem kC_Num_here : Cond.code y_Num_here b_Num_here 1 (some .char) ∈ gws := tm 180 rfl rfl
theorem kI_Num_here : Cond.instanceMethod y_Num_here ∈ gws := tm 179 (by decide +kernel) rfl
theorem kS_Num_here : Cond.selects R_Num y_Num_here y_Num_here ∈ gws := tmS (q := (y_Num_here, 8)) (by decide +kernel)
set_option maxRecDepth 100000 in
theorem kC_Num_isRest : Cond.code y_Num_isRest b_Num_isRest 3 (some .boolean) ∈ gws := tm 185 rfl rfl
theorem kI_Num_isRest : Cond.instanceMethod y_Num_isRest ∈ gws := tm 184 (by decide +kernel) rfl
theorem kS_Num_isRest : Cond.selects R_Num y_Num_isRest y_Num_isRest ∈ gws := tmS (q := (y_Num_isRest, 8)) (by decide +kernel)
set_option maxRecDepth 100000 in
theorem kC_Str_length : Cond.code y_Str_length b_Str_length 1 (some .int) ∈ gws := tm 189 rfl rfl
theorem kI_Str_length : Cond.instanceMethod y_Str_length ∈ gws := tm 187 (by decide +kernel) rfl
theorem kS_Str_length : Cond.selects R_Str y_Str_length y_Str_length ∈ gws := tm 188 (by decide +kernel) rfl
set_option maxRecDepth 100000 in
theorem kC_Str_coder : Cond.code y_Str_coder b_Str_coder 1 (some .byte) ∈ gws := tm 193 rfl rfl
theorem kI_Str_coder : Cond.instanceMethod y_Str_coder ∈ gws := tm 191 (by decide +kernel) rfl
theorem kS_Str_coder : Cond.selects R_Str y_Str_coder y_Str_coder ∈ gws := tm 192 (by decide +kernel) rfl
set_option maxRecDepth 100000 in
theorem kC_Str_charAt : Cond.code y_Str_charAt b_Str_charAt 2 (some .char) ∈ gws := tm 199 rfl rfl
theorem kI_Str_charAt : Cond.instanceMethod y_Str_charAt ∈ gws := tm 197 (by decide +kernel) rfl
theorem kS_Str_charAt : Cond.selects R_Str y_Str_charAt y_Str_charAt ∈ gws := tm 198 (by decide +kernel) rfl
set_option maxRecDepth 100000 in
theorem kC_Str_isLatin1 : Cond.code y_Str_isLatin1 b_Str_isLatin1 1 (some .boolean) ∈ gws := tm 203 rfl rfl
theorem kI_Str_isLatin1 : Cond.instanceMethod y_Str_isLatin1 ∈ gws := tm 201 (by decide +kernel) rfl
theorem kS_Str_isLatin1 : Cond.selects R_Str y_Str_isLatin1 y_Str_isLatin1 ∈ gws := tm 202 (by decide +kernel) rfl
set_option maxRecDepth 100000 in
theorem kC_Sl1_charAt : Cond.code y_Sl1_charAt b_Sl1_charAt 2 (some .char) ∈ gws := tm 206 rfl rfl
theorem kT_Sl1_charAt : Cond.static y_Sl1_charAt ∈ gws := tm 205 (by decide +kernel) rfl
set_option maxRecDepth 100000 in
theorem kC_Str_checkIndex : Cond.code y_Str_checkIndex b_Str_checkIndex 2 none ∈ gws := tm 209 rfl rfl
theorem kT_Str_checkIndex : Cond.static y_Str_checkIndex ∈ gws := tm 208 (by decide +kernel) rfl
set_option maxRecDepth 100000 in
theorem kC_Pre_checkIndex : Cond.code y_Pre_checkIndex b_Pre_checkIndex 3 (some .int) ∈ gws := tm 214 rfl rfl
theorem kT_Pre_checkIndex : Cond.static y_Pre_checkIndex ∈ gws := tm 213 (by decide +kernel) rfl
set_option maxRecDepth 100000 in
theorem kC_Num_findLiteral : Cond.code y_Num_findLiteral b_Num_findLiteral 1 (some .boolean) ∈ gws := tm 238 rfl rfl
theorem kI_Num_findLiteral : Cond.instanceMethod y_Num_findLiteral ∈ gws := tm 237 (by decide +kernel) rfl
theorem kS_Num_findLiteral : Cond.selects R_Num y_Num_findLiteral y_Num_findLiteral ∈ gws := tmS (q := (y_Num_findLiteral, 8)) (by decide +kernel)
set_option maxRecDepth 100000 in
theorem kC_Num_skipPrefix : Cond.code y_Num_skipPrefix b_Num_skipPrefix 1 (some .boolean) ∈ gws := tm 242 rfl rfl
theorem kI_Num_skipPrefix : Cond.instanceMethod y_Num_skipPrefix ∈ gws := tm 241 (by decide +kernel) rfl
theorem kS_Num_skipPrefix : Cond.selects R_Num y_Num_skipPrefix y_Num_skipPrefix ∈ gws := tmS (q := (y_Num_skipPrefix, 8)) (by decide +kernel)
set_option maxRecDepth 100000 in
theorem kC_Num_findDigits : Cond.code y_Num_findDigits b_Num_findDigits 3 (some .boolean) ∈ gws := tm 246 rfl rfl
theorem kI_Num_findDigits : Cond.instanceMethod y_Num_findDigits ∈ gws := tm 245 (by decide +kernel) rfl
theorem kS_Num_findDigits : Cond.selects R_Num y_Num_findDigits y_Num_findDigits ∈ gws := tmS (q := (y_Num_findDigits, 8)) (by decide +kernel)
set_option maxRecDepth 100000 in
theorem kC_Num_skipDigits : Cond.code y_Num_skipDigits b_Num_skipDigits 3 (some .int) ∈ gws := tm 250 rfl rfl
theorem kI_Num_skipDigits : Cond.instanceMethod y_Num_skipDigits ∈ gws := tm 249 (by decide +kernel) rfl
theorem kS_Num_skipDigits : Cond.selects R_Num y_Num_skipDigits y_Num_skipDigits ∈ gws := tmS (q := (y_Num_skipDigits, 8)) (by decide +kernel)
set_option maxRecDepth 100000 in
theorem kC_Rea_digitOf : Cond.code y_Rea_digitOf b_Rea_digitOf 1 (some .int) ∈ gws := tm 253 rfl rfl
theorem kT_Rea_digitOf : Cond.static y_Rea_digitOf ∈ gws := tm 252 (by decide +kernel) rfl
set_option maxRecDepth 100000 in
theorem kC_Num_findPower : Cond.code y_Num_findPower b_Num_findPower 4 (some .boolean) ∈ gws := tm 257 rfl rfl
theorem kI_Num_findPower : Cond.instanceMethod y_Num_findPower ∈ gws := tm 256 (by decide +kernel) rfl
theorem kS_Num_findPower : Cond.selects R_Num y_Num_findPower y_Num_findPower ∈ gws := tmS (q := (y_Num_findPower, 8)) (by decide +kernel)
set_option maxRecDepth 100000 in
theorem kC_Num_isHere : Cond.code y_Num_isHere b_Num_isHere 3 (some .boolean) ∈ gws := tm 261 rfl rfl
theorem kI_Num_isHere : Cond.instanceMethod y_Num_isHere ∈ gws := tm 260 (by decide +kernel) rfl
theorem kS_Num_isHere : Cond.selects R_Num y_Num_isHere y_Num_isHere ∈ gws := tmS (q := (y_Num_isHere, 8)) (by decide +kernel)
set_option maxRecDepth 100000 in
theorem kC_Rea_sizeAs : Cond.code y_Rea_sizeAs b_Rea_sizeAs 2 (some .long) ∈ gws := tm 266 rfl rfl
theorem kI_Rea_sizeAs : Cond.instanceMethod y_Rea_sizeAs ∈ gws := tm 265 (by decide +kernel) rfl
theorem kS_Rea_sizeAs : Cond.selects R_Rea y_Rea_sizeAs y_Rea_sizeAs ∈ gws := tmS (q := (y_Rea_sizeAs, 7)) (by decide +kernel)
set_option maxRecDepth 100000 in
theorem kC_Rea_nearestHexadecimal : Cond.code y_Rea_nearestHexadecimal b_Rea_nearestHexadecimal 9 (some .long) ∈ gws := tm 270 rfl rfl
theorem kI_Rea_nearestHexadecimal : Cond.instanceMethod y_Rea_nearestHexadecimal ∈ gws := tm 269 (by decide +kernel) rfl
theorem kS_Rea_nearestHexadecimal : Cond.selects R_Rea y_Rea_nearestHexadecimal y_Rea_nearestHexadecimal ∈ gws := tmS (q := (y_Rea_nearestHexadecimal, 7)) (by decide +kernel)
set_option maxRecDepth 100000 in
theorem kC_Kin_nearest : Cond.code y_Kin_nearest b_Kin_nearest 8 (some .long) ∈ gws := tm 275 rfl rfl
theorem kI_Kin_nearest : Cond.instanceMethod y_Kin_nearest ∈ gws := tm 273 (by decide +kernel) rfl
theorem kS_Kin_nearest : Cond.selects R_Kin y_Kin_nearest y_Kin_nearest ∈ gws := tm 274 (by decide +kernel) rfl
set_option maxRecDepth 100000 in
theorem kC_Rea_bitLengthOf : Cond.code y_Rea_bitLengthOf b_Rea_bitLengthOf 6 (some .int) ∈ gws := tm 278 rfl rfl
theorem kT_Rea_bitLengthOf : Cond.static y_Rea_bitLengthOf ∈ gws := tm 277 (by decide +kernel) rfl
set_option maxRecDepth 100000 in
theorem kC_Kin_rounded : Cond.code y_Kin_rounded b_Kin_rounded 11 (some .long) ∈ gws := tm 284 rfl rfl
theorem kT_Kin_rounded : Cond.static y_Kin_rounded ∈ gws := tm 283 (by decide +kernel) rfl
set_option maxRecDepth 100000 in
theorem kC_Dec_nearest : Cond.code y_Dec_nearest b_Dec_nearest 5 (some .long) ∈ gws := tm 288 rfl rfl
theorem kI_Dec_nearest : Cond.instanceMethod y_Dec_nearest ∈ gws := tm 286 (by decide +kernel) rfl
theorem kS_Dec_nearest : Cond.selects R_Dec y_Dec_nearest y_Dec_nearest ∈ gws := tm 287 (by decide +kernel) rfl
set_option maxRecDepth 100000 in
theorem kC_Dec_gather : Cond.code y_Dec_gather b_Dec_gather 8 none ∈ gws := tm 292 rfl rfl
theorem kI_Dec_gather : Cond.instanceMethod y_Dec_gather ∈ gws := tm 291 (by decide +kernel) rfl
theorem kS_Dec_gather : Cond.selects R_Dec y_Dec_gather y_Dec_gather ∈ gws := tmS (q := (y_Dec_gather, 5)) (by decide +kernel)
set_option maxRecDepth 100000 in
theorem kC_Big_set : Cond.code y_Big_set b_Big_set 3 none ∈ gws := tm 296 rfl rfl
theorem kI_Big_set : Cond.instanceMethod y_Big_set ∈ gws := tm 294 (by decide +kernel) rfl
theorem kS_Big_set : Cond.selects R_Big y_Big_set y_Big_set ∈ gws := tm 295 (by decide +kernel) rfl
set_option maxRecDepth 100000 in
theorem kC_Big_dropZeros : Cond.code y_Big_dropZeros b_Big_dropZeros 1 none ∈ gws := tm 300 rfl rfl
theorem kI_Big_dropZeros : Cond.instanceMethod y_Big_dropZeros ∈ gws := tm 299 (by decide +kernel) rfl
theorem kS_Big_dropZeros : Cond.selects R_Big y_Big_dropZeros y_Big_dropZeros ∈ gws := tmS (q := (y_Big_dropZeros, 2)) (by decide +kernel)
set_option maxRecDepth 100000 in
theorem kC_Dec_keepDigit : Cond.code y_Dec_keepDigit b_Dec_keepDigit 2 none ∈ gws := tm 304 rfl rfl
theorem kI_Dec_keepDigit : Cond.instanceMethod y_Dec_keepDigit ∈ gws := tm 303 (by decide +kernel) rfl
theorem kS_Dec_keepDigit : Cond.selects R_Dec y_Dec_keepDigit y_Dec_keepDigit ∈ gws := tmS (q := (y_Dec_keepDigit, 5)) (by decide +kernel)
set_option maxRecDepth 100000 in
theorem kC_Big_timesPlus : Cond.code y_Big_timesPlus b_Big_timesPlus 6 none ∈ gws := tm 309 rfl rfl
theorem kI_Big_timesPlus : Cond.instanceMethod y_Big_timesPlus ∈ gws := tm 307 (by decide +kernel) rfl
theorem kS_Big_timesPlus : Cond.selects R_Big y_Big_timesPlus y_Big_timesPlus ∈ gws := tm 308 (by decide +kernel) rfl
set_option maxRecDepth 100000 in
theorem kC_Big_timesFives : Cond.code y_Big_timesFives b_Big_timesFives 3 none ∈ gws := tm 314 rfl rfl
theorem kI_Big_timesFives : Cond.instanceMethod y_Big_timesFives ∈ gws := tm 312 (by decide +kernel) rfl
theorem kS_Big_timesFives : Cond.selects R_Big y_Big_timesFives y_Big_timesFives ∈ gws := tm 313 (by decide +kernel) rfl
set_option maxRecDepth 100000 in
theorem kC_Fra_nearest : Cond.code y_Fra_nearest b_Fra_nearest 8 (some .long) ∈ gws := tm 320 rfl rfl
theorem kI_Fra_nearest : Cond.instanceMethod y_Fra_nearest ∈ gws := tm 318 (by decide +kernel) rfl
theorem kS_Fra_nearest : Cond.selects R_Fra y_Fra_nearest y_Fra_nearest ∈ gws := tm 319 (by decide +kernel) rfl
set_option maxRecDepth 100000 in
theorem kC_Big_bitLength : Cond.code y_Big_bitLength b_Big_bitLength 1 (some .int) ∈ gws := tm 324 rfl rfl
theorem kI_Big_bitLength : Cond.instanceMethod y_Big_bitLength ∈ gws := tm 322 (by decide +kernel) rfl
theorem kS_Big_bitLength : Cond.selects R_Big y_Big_bitLength y_Big_bitLength ∈ gws := tm 323 (by decide +kernel) rfl
set_option maxRecDepth 100000 in
theorem kC_Big_shiftLeft : Cond.code y_Big_shiftLeft b_Big_shiftLeft 9 none ∈ gws := tm 329 rfl rfl
theorem kI_Big_shiftLeft : Cond.instanceMethod y_Big_shiftLeft ∈ gws := tm 327 (by decide +kernel) rfl
theorem kS_Big_shiftLeft : Cond.selects R_Big y_Big_shiftLeft y_Big_shiftLeft ∈ gws := tm 328 (by decide +kernel) rfl
set_option maxRecDepth 100000 in
theorem kC_Big_isAtLeast : Cond.code y_Big_isAtLeast b_Big_isAtLeast 3 (some .boolean) ∈ gws := tm 333 rfl rfl
theorem kI_Big_isAtLeast : Cond.instanceMethod y_Big_isAtLeast ∈ gws := tm 331 (by decide +kernel) rfl
theorem kS_Big_isAtLeast : Cond.selects R_Big y_Big_isAtLeast y_Big_isAtLeast ∈ gws := tm 332 (by decide +kernel) rfl
set_option maxRecDepth 100000 in
theorem kC_Big_subtract : Cond.code y_Big_subtract b_Big_subtract 9 none ∈ gws := tm 337 rfl rfl
theorem kI_Big_subtract : Cond.instanceMethod y_Big_subtract ∈ gws := tm 335 (by decide +kernel) rfl
theorem kS_Big_subtract : Cond.selects R_Big y_Big_subtract y_Big_subtract ∈ gws := tm 336 (by decide +kernel) rfl
set_option maxRecDepth 100000 in
theorem kC_Big_isZero : Cond.code y_Big_isZero b_Big_isZero 1 (some .boolean) ∈ gws := tm 342 rfl rfl
theorem kI_Big_isZero : Cond.instanceMethod y_Big_isZero ∈ gws := tm 340 (by decide +kernel) rfl
theorem kS_Big_isZero : Cond.selects R_Big y_Big_isZero y_Big_isZero ∈ gws := tm 341 (by decide +kernel) rfl
set_option maxRecDepth 100000 in
theorem kC_Kin_signed : Cond.code y_Kin_signed b_Kin_signed 4 (some .long) ∈ gws := tm 347 rfl rfl
theorem kI_Kin_signed : Cond.instanceMethod y_Kin_signed ∈ gws := tm 345 (by decide +kernel) rfl
theorem kS_Kin_signed : Cond.selects R_Kin y_Kin_signed y_Kin_signed ∈ gws := tm 346 (by decide +kernel) rfl
set_option maxRecDepth 100000 in
theorem kC_Rea_narrow : Cond.code y_Rea_narrow b_Rea_narrow 1 (some .boolean) ∈ gws := tm 352 rfl rfl
theorem kI_Rea_narrow : Cond.instanceMethod y_Rea_narrow ∈ gws := tm 350 (by decide +kernel) rfl
theorem kS_Rea_narrow : Cond.selects R_Rea y_Rea_narrow y_Rea_narrow ∈ gws := tm 351 (by decide +kernel) rfl
set_option maxRecDepth 100000 in
theorem kC_Rea_bits : Cond.code y_Rea_bits b_Rea_bits 1 (some .long) ∈ gws := tm 358 rfl rfl
theorem kI_Rea_bits : Cond.instanceMethod y_Rea_bits ∈ gws := tm 356 (by decide +kernel) rfl
theorem kS_Rea_bits : Cond.selects R_Rea y_Rea_bits y_Rea_bits ∈ gws := tm 357 (by decide +kernel) rfl
set_option maxRecDepth 100000 in
theorem kC_Rea_narrowed : Cond.code y_Rea_narrowed b_Rea_narrowed 3 (some .long) ∈ gws := tm 362 rfl rfl
theorem kI_Rea_narrowed : Cond.instanceMethod y_Rea_narrowed ∈ gws := tm 360 (by decide +kernel) rfl
theorem kS_Rea_narrowed : Cond.selects R_Rea y_Rea_narrowed y_Rea_narrowed ∈ gws := tm 361 (by decide +kernel) rfl
set_option maxRecDepth 100000 in
theorem kC_Rea_converted : Cond.code y_Rea_converted b_Rea_converted 12 (some .long) ∈ gws := tm 365 rfl rfl
theorem kT_Rea_converted : Cond.static y_Rea_converted ∈ gws := tm 364 (by decide +kernel) rfl
set_option maxRecDepth 100000 in
theorem kC_Kin_isNone : Cond.code y_Kin_isNone b_Kin_isNone 3 (some .boolean) ∈ gws := tm 369 rfl rfl
theorem kI_Kin_isNone : Cond.instanceMethod y_Kin_isNone ∈ gws := tm 367 (by decide +kernel) rfl
theorem kS_Kin_isNone : Cond.selects R_Kin y_Kin_isNone y_Kin_isNone ∈ gws := tm 368 (by decide +kernel) rfl
set_option maxRecDepth 100000 in
theorem kC_Kin_sizeOf : Cond.code y_Kin_sizeOf b_Kin_sizeOf 3 (some .long) ∈ gws := tm 373 rfl rfl
theorem kI_Kin_sizeOf : Cond.instanceMethod y_Kin_sizeOf ∈ gws := tm 371 (by decide +kernel) rfl
theorem kS_Kin_sizeOf : Cond.selects R_Kin y_Kin_sizeOf y_Kin_sizeOf ∈ gws := tm 372 (by decide +kernel) rfl
set_option maxRecDepth 100000 in
theorem kC_Kin_isBelow : Cond.code y_Kin_isBelow b_Kin_isBelow 3 (some .boolean) ∈ gws := tm 378 rfl rfl
theorem kI_Kin_isBelow : Cond.instanceMethod y_Kin_isBelow ∈ gws := tm 376 (by decide +kernel) rfl
theorem kS_Kin_isBelow : Cond.selects R_Kin y_Kin_isBelow y_Kin_isBelow ∈ gws := tm 377 (by decide +kernel) rfl
set_option maxRecDepth 100000 in
theorem kC_Rea_widened : Cond.code y_Rea_widened b_Rea_widened 3 (some .long) ∈ gws := tm 382 rfl rfl
theorem kI_Rea_widened : Cond.instanceMethod y_Rea_widened ∈ gws := tm 380 (by decide +kernel) rfl
theorem kS_Rea_widened : Cond.selects R_Rea y_Rea_widened y_Rea_widened ∈ gws := tm 381 (by decide +kernel) rfl
set_option maxRecDepth 100000 in
theorem kC_Rea_quotient : Cond.code y_Rea_quotient b_Rea_quotient 7 (some .long) ∈ gws := tm 386 rfl rfl
theorem kI_Rea_quotient : Cond.instanceMethod y_Rea_quotient ∈ gws := tm 384 (by decide +kernel) rfl
theorem kS_Rea_quotient : Cond.selects R_Rea y_Rea_quotient y_Rea_quotient ∈ gws := tm 385 (by decide +kernel) rfl
set_option maxRecDepth 100000 in
theorem kC_Rea_compare : Cond.code y_Rea_compare b_Rea_compare 11 (some .int) ∈ gws := tm 392 rfl rfl
theorem kI_Rea_compare : Cond.instanceMethod y_Rea_compare ∈ gws := tm 390 (by decide +kernel) rfl
theorem kS_Rea_compare : Cond.selects R_Rea y_Rea_compare y_Rea_compare ∈ gws := tm 391 (by decide +kernel) rfl
set_option maxRecDepth 100000 in
theorem kC_Kin_rank : Cond.code y_Kin_rank b_Kin_rank 3 (some .long) ∈ gws := tm 396 rfl rfl
theorem kI_Kin_rank : Cond.instanceMethod y_Kin_rank ∈ gws := tm 394 (by decide +kernel) rfl
theorem kS_Kin_rank : Cond.selects R_Kin y_Kin_rank y_Kin_rank ∈ gws := tm 395 (by decide +kernel) rfl
set_option maxRecDepth 100000 in
theorem kC_Rea_readings : Cond.code y_Rea_readings b_Rea_readings 1 (some .int) ∈ gws := tm 401 rfl rfl
theorem kI_Rea_readings : Cond.instanceMethod y_Rea_readings ∈ gws := tm 399 (by decide +kernel) rfl
theorem kS_Rea_readings : Cond.selects R_Rea y_Rea_readings y_Rea_readings ∈ gws := tm 400 (by decide +kernel) rfl
set_option maxRecDepth 100000 in
theorem kC_Mod_init : Cond.code y_Mod_init b_Mod_init 1 none ∈ gws := tm 406 rfl rfl
theorem kI_Mod_init : Cond.instanceMethod y_Mod_init ∈ gws := tm 405 (by decide +kernel) rfl
set_option maxRecDepth 100000 in
theorem kC_Mod_write : Cond.code y_Mod_write b_Mod_write 6 (some .boolean) ∈ gws := tm 436 rfl rfl
theorem kI_Mod_write : Cond.instanceMethod y_Mod_write ∈ gws := tm 434 (by decide +kernel) rfl
theorem kS_Mod_write : Cond.selects R_Mod y_Mod_write y_Mod_write ∈ gws := tm 435 (by decide +kernel) rfl
set_option maxRecDepth 100000 in
theorem kC_Mod_keep : Cond.code y_Mod_keep b_Mod_keep 2 (some .boolean) ∈ gws := tm 441 rfl rfl
theorem kI_Mod_keep : Cond.instanceMethod y_Mod_keep ∈ gws := tm 439 (by decide +kernel) rfl
theorem kS_Mod_keep : Cond.selects R_Mod y_Mod_keep y_Mod_keep ∈ gws := tm 440 (by decide +kernel) rfl
set_option maxRecDepth 100000 in
theorem kC_Mod_length : Cond.code y_Mod_length b_Mod_length 1 (some .int) ∈ gws := tm 445 rfl rfl
theorem kI_Mod_length : Cond.instanceMethod y_Mod_length ∈ gws := tm 443 (by decide +kernel) rfl
theorem kS_Mod_length : Cond.selects R_Mod y_Mod_length y_Mod_length ∈ gws := tm 444 (by decide +kernel) rfl
set_option maxRecDepth 100000 in
theorem kC_Mod_wide : Cond.code y_Mod_wide b_Mod_wide 1 (some .boolean) ∈ gws := tm 449 rfl rfl
theorem kI_Mod_wide : Cond.instanceMethod y_Mod_wide ∈ gws := tm 447 (by decide +kernel) rfl
theorem kS_Mod_wide : Cond.selects R_Mod y_Mod_wide y_Mod_wide ∈ gws := tm 448 (by decide +kernel) rfl
set_option maxRecDepth 100000 in
theorem kC_Mod_read : Cond.code y_Mod_read b_Mod_read 6 (some .boolean) ∈ gws := tm 453 rfl rfl
theorem kI_Mod_read : Cond.instanceMethod y_Mod_read ∈ gws := tm 452 (by decide +kernel) rfl
theorem kS_Mod_read : Cond.selects R_Mod y_Mod_read y_Mod_read ∈ gws := tmS (q := (y_Mod_read, 8)) (by decide +kernel)
set_option maxRecDepth 100000 in
theorem kC_Mod_look : Cond.code y_Mod_look b_Mod_look 2 (some .int) ∈ gws := tm 457 rfl rfl
theorem kI_Mod_look : Cond.instanceMethod y_Mod_look ∈ gws := tm 456 (by decide +kernel) rfl
theorem kS_Mod_look : Cond.selects R_Mod y_Mod_look y_Mod_look ∈ gws := tmS (q := (y_Mod_look, 8)) (by decide +kernel)
set_option maxRecDepth 100000 in
theorem kC_Mod_isWord : Cond.code y_Mod_isWord b_Mod_isWord 5 (some .boolean) ∈ gws := tm 461 rfl rfl
theorem kI_Mod_isWord : Cond.instanceMethod y_Mod_isWord ∈ gws := tm 460 (by decide +kernel) rfl
theorem kS_Mod_isWord : Cond.selects R_Mod y_Mod_isWord y_Mod_isWord ∈ gws := tmS (q := (y_Mod_isWord, 8)) (by decide +kernel)
set_option maxRecDepth 100000 in
theorem kC_Mod_none : Cond.code y_Mod_none b_Mod_none 1 (some .long) ∈ gws := tm 464 rfl rfl
theorem kT_Mod_none : Cond.static y_Mod_none ∈ gws := tm 463 (by decide +kernel) rfl
set_option maxRecDepth 100000 in
theorem kC_Mod_isInfinity : Cond.code y_Mod_isInfinity b_Mod_isInfinity 1 (some .boolean) ∈ gws := tm 470 rfl rfl
theorem kI_Mod_isInfinity : Cond.instanceMethod y_Mod_isInfinity ∈ gws := tm 469 (by decide +kernel) rfl
theorem kS_Mod_isInfinity : Cond.selects R_Mod y_Mod_isInfinity y_Mod_isInfinity ∈ gws := tmS (q := (y_Mod_isInfinity, 8)) (by decide +kernel)
set_option maxRecDepth 100000 in
theorem kC_Mod_infinite : Cond.code y_Mod_infinite b_Mod_infinite 1 (some .long) ∈ gws := tm 473 rfl rfl
theorem kT_Mod_infinite : Cond.static y_Mod_infinite ∈ gws := tm 472 (by decide +kernel) rfl
set_option maxRecDepth 100000 in
theorem kC_Mod_literal : Cond.code y_Mod_literal b_Mod_literal 13 (some .long) ∈ gws := tm 479 rfl rfl
theorem kI_Mod_literal : Cond.instanceMethod y_Mod_literal ∈ gws := tm 478 (by decide +kernel) rfl
theorem kS_Mod_literal : Cond.selects R_Mod y_Mod_literal y_Mod_literal ∈ gws := tmS (q := (y_Mod_literal, 8)) (by decide +kernel)
set_option maxRecDepth 100000 in
theorem kC_Mod_digits : Cond.code y_Mod_digits b_Mod_digits 4 (some .int) ∈ gws := tm 483 rfl rfl
theorem kI_Mod_digits : Cond.instanceMethod y_Mod_digits ∈ gws := tm 482 (by decide +kernel) rfl
theorem kS_Mod_digits : Cond.selects R_Mod y_Mod_digits y_Mod_digits ∈ gws := tmS (q := (y_Mod_digits, 8)) (by decide +kernel)
set_option maxRecDepth 100000 in
theorem kC_Mod_digitOf : Cond.code y_Mod_digitOf b_Mod_digitOf 1 (some .int) ∈ gws := tm 486 rfl rfl
theorem kT_Mod_digitOf : Cond.static y_Mod_digitOf ∈ gws := tm 485 (by decide +kernel) rfl
set_option maxRecDepth 100000 in
theorem kC_Mod_skips : Cond.code y_Mod_skips b_Mod_skips 3 (some .boolean) ∈ gws := tm 490 rfl rfl
theorem kI_Mod_skips : Cond.instanceMethod y_Mod_skips ∈ gws := tm 489 (by decide +kernel) rfl
theorem kS_Mod_skips : Cond.selects R_Mod y_Mod_skips y_Mod_skips ∈ gws := tmS (q := (y_Mod_skips, 8)) (by decide +kernel)
set_option maxRecDepth 100000 in
theorem kC_Mod_sized16 : Cond.code y_Mod_sized16 b_Mod_sized16 9 (some .long) ∈ gws := tm 498 rfl rfl
theorem kI_Mod_sized16 : Cond.instanceMethod y_Mod_sized16 ∈ gws := tm 497 (by decide +kernel) rfl
theorem kS_Mod_sized16 : Cond.selects R_Mod y_Mod_sized16 y_Mod_sized16 ∈ gws := tmS (q := (y_Mod_sized16, 8)) (by decide +kernel)
set_option maxRecDepth 100000 in
theorem kC_Mod_gather : Cond.code y_Mod_gather b_Mod_gather 6 none ∈ gws := tm 502 rfl rfl
theorem kI_Mod_gather : Cond.instanceMethod y_Mod_gather ∈ gws := tm 501 (by decide +kernel) rfl
theorem kS_Mod_gather : Cond.selects R_Mod y_Mod_gather y_Mod_gather ∈ gws := tmS (q := (y_Mod_gather, 8)) (by decide +kernel)
set_option maxRecDepth 100000 in
theorem kC_Mod_set : Cond.code y_Mod_set b_Mod_set 5 none ∈ gws := tm 506 rfl rfl
theorem kI_Mod_set : Cond.instanceMethod y_Mod_set ∈ gws := tm 505 (by decide +kernel) rfl
theorem kS_Mod_set : Cond.selects R_Mod y_Mod_set y_Mod_set ∈ gws := tmS (q := (y_Mod_set, 8)) (by decide +kernel)
set_option maxRecDepth 100000 in
theorem kC_Mod_trim : Cond.code y_Mod_trim b_Mod_trim 4 none ∈ gws := tm 511 rfl rfl
theorem kI_Mod_trim : Cond.instanceMethod y_Mod_trim ∈ gws := tm 510 (by decide +kernel) rfl
theorem kS_Mod_trim : Cond.selects R_Mod y_Mod_trim y_Mod_trim ∈ gws := tmS (q := (y_Mod_trim, 8)) (by decide +kernel)
set_option maxRecDepth 100000 in
theorem kC_Mod_grow : Cond.code y_Mod_grow b_Mod_grow 7 none ∈ gws := tm 515 rfl rfl
theorem kI_Mod_grow : Cond.instanceMethod y_Mod_grow ∈ gws := tm 514 (by decide +kernel) rfl
theorem kS_Mod_grow : Cond.selects R_Mod y_Mod_grow y_Mod_grow ∈ gws := tmS (q := (y_Mod_grow, 8)) (by decide +kernel)
set_option maxRecDepth 100000 in
theorem kC_Mod_bitsOf : Cond.code y_Mod_bitsOf b_Mod_bitsOf 4 (some .int) ∈ gws := tm 521 rfl rfl
theorem kI_Mod_bitsOf : Cond.instanceMethod y_Mod_bitsOf ∈ gws := tm 520 (by decide +kernel) rfl
theorem kS_Mod_bitsOf : Cond.selects R_Mod y_Mod_bitsOf y_Mod_bitsOf ∈ gws := tmS (q := (y_Mod_bitsOf, 8)) (by decide +kernel)
set_option maxRecDepth 100000 in
theorem kC_Mod_raise : Cond.code y_Mod_raise b_Mod_raise 6 none ∈ gws := tm 527 rfl rfl
theorem kI_Mod_raise : Cond.instanceMethod y_Mod_raise ∈ gws := tm 526 (by decide +kernel) rfl
theorem kS_Mod_raise : Cond.selects R_Mod y_Mod_raise y_Mod_raise ∈ gws := tmS (q := (y_Mod_raise, 8)) (by decide +kernel)
set_option maxRecDepth 100000 in
theorem kC_Mod_nearest : Cond.code y_Mod_nearest b_Mod_nearest 10 (some .long) ∈ gws := tm 531 rfl rfl
theorem kI_Mod_nearest : Cond.instanceMethod y_Mod_nearest ∈ gws := tm 530 (by decide +kernel) rfl
theorem kS_Mod_nearest : Cond.selects R_Mod y_Mod_nearest y_Mod_nearest ∈ gws := tmS (q := (y_Mod_nearest, 8)) (by decide +kernel)
set_option maxRecDepth 100000 in
theorem kC_Mod_compareRows : Cond.code y_Mod_compareRows b_Mod_compareRows 6 (some .int) ∈ gws := tm 535 rfl rfl
theorem kI_Mod_compareRows : Cond.instanceMethod y_Mod_compareRows ∈ gws := tm 534 (by decide +kernel) rfl
theorem kS_Mod_compareRows : Cond.selects R_Mod y_Mod_compareRows y_Mod_compareRows ∈ gws := tmS (q := (y_Mod_compareRows, 8)) (by decide +kernel)
set_option maxRecDepth 100000 in
theorem kC_Mod_lessen : Cond.code y_Mod_lessen b_Mod_lessen 6 none ∈ gws := tm 539 rfl rfl
theorem kI_Mod_lessen : Cond.instanceMethod y_Mod_lessen ∈ gws := tm 538 (by decide +kernel) rfl
theorem kS_Mod_lessen : Cond.selects R_Mod y_Mod_lessen y_Mod_lessen ∈ gws := tmS (q := (y_Mod_lessen, 8)) (by decide +kernel)
set_option maxRecDepth 100000 in
theorem kC_Mod_halve : Cond.code y_Mod_halve b_Mod_halve 4 none ∈ gws := tm 544 rfl rfl
theorem kI_Mod_halve : Cond.instanceMethod y_Mod_halve ∈ gws := tm 543 (by decide +kernel) rfl
theorem kS_Mod_halve : Cond.selects R_Mod y_Mod_halve y_Mod_halve ∈ gws := tmS (q := (y_Mod_halve, 8)) (by decide +kernel)
set_option maxRecDepth 100000 in
theorem kC_Mod_rounded : Cond.code y_Mod_rounded b_Mod_rounded 17 (some .long) ∈ gws := tm 548 rfl rfl
theorem kI_Mod_rounded : Cond.instanceMethod y_Mod_rounded ∈ gws := tm 547 (by decide +kernel) rfl
theorem kS_Mod_rounded : Cond.selects R_Mod y_Mod_rounded y_Mod_rounded ∈ gws := tmS (q := (y_Mod_rounded, 8)) (by decide +kernel)
set_option maxRecDepth 100000 in
theorem kC_Mod_sized10 : Cond.code y_Mod_sized10 b_Mod_sized10 14 (some .long) ∈ gws := tm 553 rfl rfl
theorem kI_Mod_sized10 : Cond.instanceMethod y_Mod_sized10 ∈ gws := tm 552 (by decide +kernel) rfl
theorem kS_Mod_sized10 : Cond.selects R_Mod y_Mod_sized10 y_Mod_sized10 ∈ gws := tmS (q := (y_Mod_sized10, 8)) (by decide +kernel)
set_option maxRecDepth 100000 in
theorem kC_Mod_signed : Cond.code y_Mod_signed b_Mod_signed 4 (some .long) ∈ gws := tm 558 rfl rfl
theorem kT_Mod_signed : Cond.static y_Mod_signed ∈ gws := tm 557 (by decide +kernel) rfl
set_option maxRecDepth 100000 in
theorem kC_Mod_narrow : Cond.code y_Mod_narrow b_Mod_narrow 1 (some .boolean) ∈ gws := tm 564 rfl rfl
theorem kI_Mod_narrow : Cond.instanceMethod y_Mod_narrow ∈ gws := tm 562 (by decide +kernel) rfl
theorem kS_Mod_narrow : Cond.selects R_Mod y_Mod_narrow y_Mod_narrow ∈ gws := tm 563 (by decide +kernel) rfl
set_option maxRecDepth 100000 in
theorem kC_Mod_bits : Cond.code y_Mod_bits b_Mod_bits 1 (some .long) ∈ gws := tm 568 rfl rfl
theorem kI_Mod_bits : Cond.instanceMethod y_Mod_bits ∈ gws := tm 566 (by decide +kernel) rfl
theorem kS_Mod_bits : Cond.selects R_Mod y_Mod_bits y_Mod_bits ∈ gws := tm 567 (by decide +kernel) rfl
set_option maxRecDepth 100000 in
theorem kC_Mod_readings : Cond.code y_Mod_readings b_Mod_readings 1 (some .int) ∈ gws := tm 572 rfl rfl
theorem kI_Mod_readings : Cond.instanceMethod y_Mod_readings ∈ gws := tm 570 (by decide +kernel) rfl
theorem kS_Mod_readings : Cond.selects R_Mod y_Mod_readings y_Mod_readings ∈ gws := tm 571 (by decide +kernel) rfl
set_option maxRecDepth 100000 in
theorem kC_Mod_narrowed : Cond.code y_Mod_narrowed b_Mod_narrowed 5 (some .long) ∈ gws := tm 576 rfl rfl
theorem kI_Mod_narrowed : Cond.instanceMethod y_Mod_narrowed ∈ gws := tm 574 (by decide +kernel) rfl
theorem kS_Mod_narrowed : Cond.selects R_Mod y_Mod_narrowed y_Mod_narrowed ∈ gws := tm 575 (by decide +kernel) rfl
set_option maxRecDepth 100000 in
theorem kC_Mod_load : Cond.code y_Mod_load b_Mod_load 10 none ∈ gws := tm 581 rfl rfl
theorem kI_Mod_load : Cond.instanceMethod y_Mod_load ∈ gws := tm 580 (by decide +kernel) rfl
theorem kS_Mod_load : Cond.selects R_Mod y_Mod_load y_Mod_load ∈ gws := tmS (q := (y_Mod_load, 8)) (by decide +kernel)
set_option maxRecDepth 100000 in
theorem kC_Mod_widened : Cond.code y_Mod_widened b_Mod_widened 6 (some .long) ∈ gws := tm 585 rfl rfl
theorem kI_Mod_widened : Cond.instanceMethod y_Mod_widened ∈ gws := tm 583 (by decide +kernel) rfl
theorem kS_Mod_widened : Cond.selects R_Mod y_Mod_widened y_Mod_widened ∈ gws := tm 584 (by decide +kernel) rfl
set_option maxRecDepth 100000 in
theorem kC_Mod_quotient : Cond.code y_Mod_quotient b_Mod_quotient 6 (some .long) ∈ gws := tm 590 rfl rfl
theorem kI_Mod_quotient : Cond.instanceMethod y_Mod_quotient ∈ gws := tm 588 (by decide +kernel) rfl
theorem kS_Mod_quotient : Cond.selects R_Mod y_Mod_quotient y_Mod_quotient ∈ gws := tm 589 (by decide +kernel) rfl
set_option maxRecDepth 100000 in
theorem kC_Mod_compare : Cond.code y_Mod_compare b_Mod_compare 12 (some .int) ∈ gws := tm 594 rfl rfl
theorem kI_Mod_compare : Cond.instanceMethod y_Mod_compare ∈ gws := tm 592 (by decide +kernel) rfl
theorem kS_Mod_compare : Cond.selects R_Mod y_Mod_compare y_Mod_compare ∈ gws := tm 593 (by decide +kernel) rfl
theorem kN_Law : Cond.initialized "NearestReaderLaw" ∈ gws := tm 0 (by decide +kernel) rfl
theorem kN_Rea : Cond.initialized R_Rea ∈ gws := tm 1 (by decide +kernel) rfl
theorem kN_Num : Cond.initialized R_Num ∈ gws := tm 2 (by decide +kernel) rfl
theorem kN_Dec : Cond.initialized R_Dec ∈ gws := tm 3 (by decide +kernel) rfl
theorem kN_Fra : Cond.initialized R_Fra ∈ gws := tm 4 (by decide +kernel) rfl
theorem kN_Big : Cond.initialized R_Big ∈ gws := tm 5 (by decide +kernel) rfl
theorem kN_Mod : Cond.initialized R_Mod ∈ gws := tm 6 (by decide +kernel) rfl
theorem kN_Enum : Cond.initialized "java/lang/Enum" ∈ gws := tm 7 (by decide +kernel) rfl
theorem kN_Kin : Cond.initialized R_Kin ∈ gws := tm 8 (by decide +kernel) rfl
theorem kN_Math : Cond.initialized "java/lang/Math" ∈ gws := tm 9 (by decide +kernel) rfl
theorem kN_Str : Cond.initialized R_Str ∈ gws := tm 10 (by decide +kernel) rfl
theorem kN_Sl1 : Cond.initialized R_Sl1 ∈ gws := tm 11 (by decide +kernel) rfl
theorem kN_Pre : Cond.initialized R_Pre ∈ gws := tm 12 (by decide +kernel) rfl
theorem kN_StringUTF16 : Cond.initialized "java/lang/StringUTF16" ∈ gws := tm 13 (by decide +kernel) rfl
theorem kL_Law_7 : Cond.classLink "NearestReaderLaw" 7 R_Rea ∈ gws := tm 14 (by decide +kernel) rfl
theorem kH_Rea : Cond.instantiable R_Rea 7 ∈ gws := tm 15 (by decide +kernel) rfl
theorem kM_Law_9 : Cond.methodLink "NearestReaderLaw" 9 y_Rea_init ∈ gws := tm 16 (by decide +kernel) rfl
theorem kM_Rea_1 : Cond.methodLink R_Rea 1 objectInit ∈ gws := tm 19 (by decide +kernel) rfl
theorem kL_Rea_7 : Cond.classLink R_Rea 7 R_Num ∈ gws := tm 22 (by decide +kernel) rfl
theorem kH_Num : Cond.instantiable R_Num 8 ∈ gws := tm 23 (by decide +kernel) rfl
theorem kM_Rea_9 : Cond.methodLink R_Rea 9 y_Num_init ∈ gws := tm 24 (by decide +kernel) rfl
theorem kM_Num_3 : Cond.methodLink R_Num 3 objectInit ∈ gws := tm 27 (by decide +kernel) rfl
theorem kF_Num_9 : Cond.fieldLink R_Num 9 "NearestReader$Numeral" "text" "[C" ∈ gws := tm 28 (by decide +kernel) rfl
theorem kF_Rea_23 : Cond.fieldLink R_Rea 23 "NearestReader$Numeral" "text" "[C" ∈ gws := tm 29 (by decide +kernel) rfl
theorem kF_Dec_68 : Cond.fieldLink R_Dec 68 "NearestReader$Numeral" "text" "[C" ∈ gws := tm 30 (by decide +kernel) rfl
theorem kF_Num_27 : Cond.fieldLink R_Num 27 "NearestReader$Numeral" "at" "I" ∈ gws := tm 31 (by decide +kernel) rfl
theorem kF_Num_52 : Cond.fieldLink R_Num 52 "NearestReader$Numeral" "end" "I" ∈ gws := tm 32 (by decide +kernel) rfl
theorem kF_Num_23 : Cond.fieldLink R_Num 23 "NearestReader$Numeral" "minus" "Z" ∈ gws := tm 33 (by decide +kernel) rfl
theorem kF_Rea_115 : Cond.fieldLink R_Rea 115 "NearestReader$Numeral" "minus" "Z" ∈ gws := tm 34 (by decide +kernel) rfl
theorem kF_Num_37 : Cond.fieldLink R_Num 37 "NearestReader$Numeral" "form" "I" ∈ gws := tm 35 (by decide +kernel) rfl
theorem kF_Rea_108 : Cond.fieldLink R_Rea 108 "NearestReader$Numeral" "form" "I" ∈ gws := tm 36 (by decide +kernel) rfl
theorem kF_Dec_78 : Cond.fieldLink R_Dec 78 "NearestReader$Numeral" "from" "I" ∈ gws := tm 37 (by decide +kernel) rfl
theorem kF_Num_79 : Cond.fieldLink R_Num 79 "NearestReader$Numeral" "from" "I" ∈ gws := tm 38 (by decide +kernel) rfl
theorem kF_Rea_128 : Cond.fieldLink R_Rea 128 "NearestReader$Numeral" "from" "I" ∈ gws := tm 39 (by decide +kernel) rfl
theorem kF_Dec_81 : Cond.fieldLink R_Dec 81 "NearestReader$Numeral" "to" "I" ∈ gws := tm 40 (by decide +kernel) rfl
theorem kF_Num_86 : Cond.fieldLink R_Num 86 "NearestReader$Numeral" "to" "I" ∈ gws := tm 41 (by decide +kernel) rfl
theorem kF_Rea_131 : Cond.fieldLink R_Rea 131 "NearestReader$Numeral" "to" "I" ∈ gws := tm 42 (by decide +kernel) rfl
theorem kF_Dec_29 : Cond.fieldLink R_Dec 29 "NearestReader$Numeral" "power" "I" ∈ gws := tm 43 (by decide +kernel) rfl
theorem kF_Num_93 : Cond.fieldLink R_Num 93 "NearestReader$Numeral" "power" "I" ∈ gws := tm 44 (by decide +kernel) rfl
theorem kF_Rea_125 : Cond.fieldLink R_Rea 125 "NearestReader$Numeral" "power" "I" ∈ gws := tm 45 (by decide +kernel) rfl
theorem kA_char : Cond.arrayClass .char ∈ gws := tm 63 (by decide +kernel) rfl
theorem kL_Rea_16 : Cond.classLink R_Rea 16 R_Dec ∈ gws := tm 64 (by decide +kernel) rfl
theorem kH_Dec : Cond.instantiable R_Dec 5 ∈ gws := tm 65 (by decide +kernel) rfl
theorem kM_Rea_18 : Cond.methodLink R_Rea 18 y_Dec_init ∈ gws := tm 66 (by decide +kernel) rfl
theorem kM_Dec_1 : Cond.methodLink R_Dec 1 objectInit ∈ gws := tm 69 (by decide +kernel) rfl
theorem kL_Dec_7 : Cond.classLink R_Dec 7 R_Fra ∈ gws := tm 70 (by decide +kernel) rfl
theorem kH_Fra : Cond.instantiable R_Fra 2 ∈ gws := tm 71 (by decide +kernel) rfl
theorem kM_Dec_9 : Cond.methodLink R_Dec 9 y_Fra_init ∈ gws := tm 72 (by decide +kernel) rfl
theorem kM_Fra_1 : Cond.methodLink R_Fra 1 objectInit ∈ gws := tm 75 (by decide +kernel) rfl
theorem kL_Fra_7 : Cond.classLink R_Fra 7 R_Big ∈ gws := tm 76 (by decide +kernel) rfl
theorem kH_Big : Cond.instantiable R_Big 2 ∈ gws := tm 77 (by decide +kernel) rfl
theorem kM_Fra_9 : Cond.methodLink R_Fra 9 y_Big_init ∈ gws := tm 78 (by decide +kernel) rfl
theorem kM_Big_1 : Cond.methodLink R_Big 1 objectInit ∈ gws := tm 81 (by decide +kernel) rfl
theorem kF_Big_9 : Cond.fieldLink R_Big 9 "NearestReader$Big" "limbs" "[I" ∈ gws := tm 82 (by decide +kernel) rfl
theorem kF_Big_13 : Cond.fieldLink R_Big 13 "NearestReader$Big" "used" "I" ∈ gws := tm 83 (by decide +kernel) rfl
theorem kA_int : Cond.arrayClass .int ∈ gws := tm 89 (by decide +kernel) rfl
theorem kF_Fra_10 : Cond.fieldLink R_Fra 10 "NearestReader$Fraction" "top" "LNearestReader$Big;" ∈ gws := tm 90 (by decide +kernel) rfl
theorem kF_Dec_61 : Cond.fieldLink R_Dec 61 "NearestReader$Fraction" "top" "LNearestReader$Big;" ∈ gws := tm 91 (by decide +kernel) rfl
theorem kF_Rea_77 : Cond.fieldLink R_Rea 77 "NearestReader$Fraction" "top" "LNearestReader$Big;" ∈ gws := tm 92 (by decide +kernel) rfl
theorem kF_Fra_16 : Cond.fieldLink R_Fra 16 "NearestReader$Fraction" "bottom" "LNearestReader$Big;" ∈ gws := tm 93 (by decide +kernel) rfl
theorem kF_Dec_47 : Cond.fieldLink R_Dec 47 "NearestReader$Fraction" "bottom" "LNearestReader$Big;" ∈ gws := tm 94 (by decide +kernel) rfl
theorem kF_Rea_89 : Cond.fieldLink R_Rea 89 "NearestReader$Fraction" "bottom" "LNearestReader$Big;" ∈ gws := tm 95 (by decide +kernel) rfl
theorem kF_Dec_10 : Cond.fieldLink R_Dec 10 "NearestReader$Decimal" "fraction" "LNearestReader$Fraction;" ∈ gws := tm 101 (by decide +kernel) rfl
theorem kF_Rea_28 : Cond.fieldLink R_Rea 28 "NearestReader$Decimal" "fraction" "LNearestReader$Fraction;" ∈ gws := tm 102 (by decide +kernel) rfl
theorem kF_Dec_72 : Cond.fieldLink R_Dec 72 "NearestReader$Decimal" "group" "I" ∈ gws := tm 103 (by decide +kernel) rfl
theorem kF_Dec_75 : Cond.fieldLink R_Dec 75 "NearestReader$Decimal" "groupScale" "I" ∈ gws := tm 104 (by decide +kernel) rfl
theorem kF_Dec_34 : Cond.fieldLink R_Dec 34 "NearestReader$Decimal" "kept" "I" ∈ gws := tm 105 (by decide +kernel) rfl
theorem kF_Dec_26 : Cond.fieldLink R_Dec 26 "NearestReader$Decimal" "place" "I" ∈ gws := tm 106 (by decide +kernel) rfl
theorem kF_Rea_27 : Cond.fieldLink R_Rea 27 "NearestReader" "text" "[C" ∈ gws := tm 118 (by decide +kernel) rfl
theorem kF_Rea_10 : Cond.fieldLink R_Rea 10 "NearestReader" "numeral" "LNearestReader$Numeral;" ∈ gws := tm 119 (by decide +kernel) rfl
theorem kF_Rea_19 : Cond.fieldLink R_Rea 19 "NearestReader" "decimal" "LNearestReader$Decimal;" ∈ gws := tm 120 (by decide +kernel) rfl
theorem kF_Rea_32 : Cond.fieldLink R_Rea 32 "NearestReader" "fraction" "LNearestReader$Fraction;" ∈ gws := tm 121 (by decide +kernel) rfl
theorem kF_Rea_33 : Cond.fieldLink R_Rea 33 "NearestReader" "filled" "I" ∈ gws := tm 122 (by decide +kernel) rfl
theorem kF_Rea_37 : Cond.fieldLink R_Rea 37 "NearestReader" "result" "J" ∈ gws := tm 123 (by decide +kernel) rfl
theorem kF_Rea_41 : Cond.fieldLink R_Rea 41 "NearestReader" "found" "I" ∈ gws := tm 124 (by decide +kernel) rfl
theorem kM_Law_15 : Cond.methodLink "NearestReaderLaw" 15 y_Rea_write ∈ gws := tm 140 (by decide +kernel) rfl
theorem kM_Rea_44 : Cond.methodLink R_Rea 44 y_Rea_countCharacters ∈ gws := tm 144 (by decide +kernel) rfl
theorem kK_Rea_48 : Cond.constantLong R_Rea 48 (255) ∈ gws := tm 147 (by decide +kernel) rfl
theorem kM_Law_20 : Cond.methodLink "NearestReaderLaw" 20 y_Rea_keep ∈ gws := tm 148 (by decide +kernel) rfl
theorem kM_Law_25 : Cond.methodLink "NearestReaderLaw" 25 y_Rea_length ∈ gws := tm 152 (by decide +kernel) rfl
theorem kM_Law_30 : Cond.methodLink "NearestReaderLaw" 30 y_Rea_wide ∈ gws := tm 156 (by decide +kernel) rfl
theorem kF_Rea_50 : Cond.fieldLink R_Rea 50 "NearestReader$Kind" "WIDE" "LNearestReader$Kind;" ∈ gws := tm 160 (by decide +kernel) rfl
theorem kM_Rea_56 : Cond.methodLink R_Rea 56 y_Rea_readAs ∈ gws := tm 162 (by decide +kernel) rfl
theorem kM_Rea_104 : Cond.methodLink R_Rea 104 y_Num_findIn ∈ gws := tm 166 (by decide +kernel) rfl
theorem kM_Num_15 : Cond.methodLink R_Num 15 y_Num_trim ∈ gws := tm 170 (by decide +kernel) rfl
theorem kM_Num_46 : Cond.methodLink R_Num 46 ⟨"java/lang/Math", "min", "(II)I"⟩ ∈ gws := tm 174 (by decide +kernel) rfl
theorem kM_Num_19 : Cond.methodLink R_Num 19 y_Num_here ∈ gws := tm 177 (by decide +kernel) rfl
theorem kM_Num_33 : Cond.methodLink R_Num 33 y_Num_isRest ∈ gws := tm 182 (by decide +kernel) rfl
theorem kM_Num_55 : Cond.methodLink R_Num 55 y_Str_length ∈ gws := tm 186 (by decide +kernel) rfl
theorem kM_Str_335 : Cond.methodLink R_Str 335 y_Str_coder ∈ gws := tm 190 (by decide +kernel) rfl
theorem kF_Str_38 : Cond.fieldLink R_Str 38 "java/lang/String" "COMPACT_STRINGS" "Z" ∈ gws := tm 194 (by decide +kernel) rfl
theorem kM_Num_61 : Cond.methodLink R_Num 61 y_Str_charAt ∈ gws := tm 196 (by decide +kernel) rfl
theorem kM_Str_492 : Cond.methodLink R_Str 492 y_Str_isLatin1 ∈ gws := tm 200 (by decide +kernel) rfl
theorem kM_Str_495 : Cond.methodLink R_Str 495 y_Sl1_charAt ∈ gws := tm 204 (by decide +kernel) rfl
theorem kM_Sl1_9 : Cond.methodLink R_Sl1 9 y_Str_checkIndex ∈ gws := tm 207 (by decide +kernel) rfl
theorem kF_Str_1053 : Cond.fieldLink R_Str 1053 "jdk/internal/util/Preconditions" "SIOOBE_FORMATTER" "Ljava/util/function/BiFunction;" ∈ gws := tm 210 (by decide +kernel) rfl
theorem kM_Str_1059 : Cond.methodLink R_Str 1059 y_Pre_checkIndex ∈ gws := tm 212 (by decide +kernel) rfl
theorem kM_Str_498 : Cond.methodLink R_Str 498 ⟨"java/lang/StringUTF16", "charAt", "([BI)C"⟩ ∈ gws := tm 215 (by decide +kernel) rfl
theorem kM_Num_42 : Cond.methodLink R_Num 42 y_Num_findLiteral ∈ gws := tm 235 (by decide +kernel) rfl
theorem kM_Num_65 : Cond.methodLink R_Num 65 y_Num_skipPrefix ∈ gws := tm 239 (by decide +kernel) rfl
theorem kM_Num_68 : Cond.methodLink R_Num 68 y_Num_findDigits ∈ gws := tm 243 (by decide +kernel) rfl
theorem kM_Num_82 : Cond.methodLink R_Num 82 y_Num_skipDigits ∈ gws := tm 247 (by decide +kernel) rfl
theorem kM_Num_72 : Cond.methodLink R_Num 72 y_Num_findPower ∈ gws := tm 254 (by decide +kernel) rfl
theorem kM_Num_75 : Cond.methodLink R_Num 75 y_Num_isHere ∈ gws := tm 258 (by decide +kernel) rfl
theorem kK_Num_96 : Cond.constant R_Num 96 (1000000) ∈ gws := tm 262 (by decide +kernel) rfl
theorem kM_Rea_111 : Cond.methodLink R_Rea 111 y_Rea_sizeAs ∈ gws := tm 263 (by decide +kernel) rfl
theorem kM_Rea_119 : Cond.methodLink R_Rea 119 y_Rea_nearestHexadecimal ∈ gws := tm 267 (by decide +kernel) rfl
theorem kM_Rea_134 : Cond.methodLink R_Rea 134 y_Rea_digitOf ∈ gws := tm 271 (by decide +kernel) rfl
theorem kM_Rea_138 : Cond.methodLink R_Rea 138 y_Kin_nearest ∈ gws := tm 272 (by decide +kernel) rfl
theorem kM_Kin_72 : Cond.methodLink R_Kin 72 ⟨"java/lang/Math", "max", "(II)I"⟩ ∈ gws := tm 279 (by decide +kernel) rfl
theorem kM_Kin_78 : Cond.methodLink R_Kin 78 y_Kin_rounded ∈ gws := tm 282 (by decide +kernel) rfl
theorem kM_Rea_122 : Cond.methodLink R_Rea 122 y_Dec_nearest ∈ gws := tm 285 (by decide +kernel) rfl
theorem kM_Dec_22 : Cond.methodLink R_Dec 22 y_Dec_gather ∈ gws := tm 289 (by decide +kernel) rfl
theorem kM_Dec_51 : Cond.methodLink R_Dec 51 y_Big_set ∈ gws := tm 293 (by decide +kernel) rfl
theorem kM_Big_17 : Cond.methodLink R_Big 17 y_Big_dropZeros ∈ gws := tm 297 (by decide +kernel) rfl
theorem kM_Dec_84 : Cond.methodLink R_Dec 84 y_Dec_keepDigit ∈ gws := tm 301 (by decide +kernel) rfl
theorem kK_Dec_91 : Cond.constant R_Dec 91 (1000000000) ∈ gws := tm 305 (by decide +kernel) rfl
theorem kM_Dec_87 : Cond.methodLink R_Dec 87 y_Big_timesPlus ∈ gws := tm 306 (by decide +kernel) rfl
theorem kK_Big_20 : Cond.constantLong R_Big 20 (4294967295) ∈ gws := tm 310 (by decide +kernel) rfl
theorem kM_Dec_57 : Cond.methodLink R_Dec 57 y_Big_timesFives ∈ gws := tm 311 (by decide +kernel) rfl
theorem kK_Big_28 : Cond.constant R_Big 28 (1220703125) ∈ gws := tm 315 (by decide +kernel) rfl
theorem kM_Big_29 : Cond.methodLink R_Big 29 y_Big_timesPlus ∈ gws := tm 316 (by decide +kernel) rfl
theorem kM_Dec_64 : Cond.methodLink R_Dec 64 y_Fra_nearest ∈ gws := tm 317 (by decide +kernel) rfl
theorem kM_Fra_19 : Cond.methodLink R_Fra 19 y_Big_bitLength ∈ gws := tm 321 (by decide +kernel) rfl
theorem kM_Fra_23 : Cond.methodLink R_Fra 23 y_Big_shiftLeft ∈ gws := tm 326 (by decide +kernel) rfl
theorem kM_Fra_33 : Cond.methodLink R_Fra 33 y_Big_isAtLeast ∈ gws := tm 330 (by decide +kernel) rfl
theorem kM_Fra_37 : Cond.methodLink R_Fra 37 y_Big_subtract ∈ gws := tm 334 (by decide +kernel) rfl
theorem kM_Fra_41 : Cond.methodLink R_Fra 41 y_Big_timesPlus ∈ gws := tm 338 (by decide +kernel) rfl
theorem kM_Fra_45 : Cond.methodLink R_Fra 45 y_Big_isZero ∈ gws := tm 339 (by decide +kernel) rfl
theorem kM_Fra_49 : Cond.methodLink R_Fra 49 y_Kin_nearest ∈ gws := tm 343 (by decide +kernel) rfl
theorem kM_Rea_73 : Cond.methodLink R_Rea 73 y_Kin_signed ∈ gws := tm 344 (by decide +kernel) rfl
theorem kA_byte : Cond.arrayClass .byte ∈ gws := tm 348 (by decide +kernel) rfl
theorem kM_Law_35 : Cond.methodLink "NearestReaderLaw" 35 y_Rea_narrow ∈ gws := tm 349 (by decide +kernel) rfl
theorem kF_Rea_60 : Cond.fieldLink R_Rea 60 "NearestReader$Kind" "NARROW" "LNearestReader$Kind;" ∈ gws := tm 353 (by decide +kernel) rfl
theorem kM_Law_39 : Cond.methodLink "NearestReaderLaw" 39 y_Rea_bits ∈ gws := tm 355 (by decide +kernel) rfl
theorem kM_Law_44 : Cond.methodLink "NearestReaderLaw" 44 y_Rea_narrowed ∈ gws := tm 359 (by decide +kernel) rfl
theorem kM_Rea_63 : Cond.methodLink R_Rea 63 y_Rea_converted ∈ gws := tm 363 (by decide +kernel) rfl
theorem kM_Rea_96 : Cond.methodLink R_Rea 96 y_Kin_isNone ∈ gws := tm 366 (by decide +kernel) rfl
theorem kM_Kin_58 : Cond.methodLink R_Kin 58 y_Kin_sizeOf ∈ gws := tm 370 (by decide +kernel) rfl
theorem kM_Rea_141 : Cond.methodLink R_Rea 141 y_Kin_sizeOf ∈ gws := tm 374 (by decide +kernel) rfl
theorem kM_Rea_144 : Cond.methodLink R_Rea 144 y_Kin_isBelow ∈ gws := tm 375 (by decide +kernel) rfl
theorem kM_Law_49 : Cond.methodLink "NearestReaderLaw" 49 y_Rea_widened ∈ gws := tm 379 (by decide +kernel) rfl
theorem kM_Law_53 : Cond.methodLink "NearestReaderLaw" 53 y_Rea_quotient ∈ gws := tm 383 (by decide +kernel) rfl
theorem kM_Rea_83 : Cond.methodLink R_Rea 83 y_Big_set ∈ gws := tm 387 (by decide +kernel) rfl
theorem kM_Rea_92 : Cond.methodLink R_Rea 92 y_Fra_nearest ∈ gws := tm 388 (by decide +kernel) rfl
theorem kM_Law_58 : Cond.methodLink "NearestReaderLaw" 58 y_Rea_compare ∈ gws := tm 389 (by decide +kernel) rfl
theorem kM_Rea_100 : Cond.methodLink R_Rea 100 y_Kin_rank ∈ gws := tm 393 (by decide +kernel) rfl
theorem kM_Kin_62 : Cond.methodLink R_Kin 62 y_Kin_isBelow ∈ gws := tm 397 (by decide +kernel) rfl
theorem kM_Law_63 : Cond.methodLink "NearestReaderLaw" 63 y_Rea_readings ∈ gws := tm 398 (by decide +kernel) rfl
theorem kL_Law_10 : Cond.classLink "NearestReaderLaw" 10 R_Mod ∈ gws := tm 402 (by decide +kernel) rfl
theorem kH_Mod : Cond.instantiable R_Mod 8 ∈ gws := tm 403 (by decide +kernel) rfl
theorem kM_Law_12 : Cond.methodLink "NearestReaderLaw" 12 y_Mod_init ∈ gws := tm 404 (by decide +kernel) rfl
theorem kM_Mod_1 : Cond.methodLink R_Mod 1 objectInit ∈ gws := tm 407 (by decide +kernel) rfl
theorem kF_Mod_7 : Cond.fieldLink R_Mod 7 "NearestReaderModel" "text" "[I" ∈ gws := tm 408 (by decide +kernel) rfl
theorem kF_Mod_74 : Cond.fieldLink R_Mod 74 "NearestReaderModel" "length" "I" ∈ gws := tm 409 (by decide +kernel) rfl
theorem kF_Mod_97 : Cond.fieldLink R_Mod 97 "NearestReaderModel" "result" "J" ∈ gws := tm 410 (by decide +kernel) rfl
theorem kF_Mod_101 : Cond.fieldLink R_Mod 101 "NearestReaderModel" "readings" "I" ∈ gws := tm 411 (by decide +kernel) rfl
theorem kF_Mod_13 : Cond.fieldLink R_Mod 13 "NearestReaderModel" "m" "[I" ∈ gws := tm 412 (by decide +kernel) rfl
theorem kF_Mod_16 : Cond.fieldLink R_Mod 16 "NearestReaderModel" "n" "[I" ∈ gws := tm 413 (by decide +kernel) rfl
theorem kF_Mod_81 : Cond.fieldLink R_Mod 81 "NearestReaderModel" "at" "I" ∈ gws := tm 414 (by decide +kernel) rfl
theorem kF_Mod_78 : Cond.fieldLink R_Mod 78 "NearestReaderModel" "end" "I" ∈ gws := tm 415 (by decide +kernel) rfl
theorem kM_Law_19 : Cond.methodLink "NearestReaderLaw" 19 y_Mod_write ∈ gws := tm 433 (by decide +kernel) rfl
theorem kK_Mod_72 : Cond.constantLong R_Mod 72 (255) ∈ gws := tm 437 (by decide +kernel) rfl
theorem kM_Law_24 : Cond.methodLink "NearestReaderLaw" 24 y_Mod_keep ∈ gws := tm 438 (by decide +kernel) rfl
theorem kM_Law_29 : Cond.methodLink "NearestReaderLaw" 29 y_Mod_length ∈ gws := tm 442 (by decide +kernel) rfl
theorem kM_Law_34 : Cond.methodLink "NearestReaderLaw" 34 y_Mod_wide ∈ gws := tm 446 (by decide +kernel) rfl
theorem kM_Mod_159 : Cond.methodLink R_Mod 159 y_Mod_read ∈ gws := tm 450 (by decide +kernel) rfl
theorem kM_Mod_84 : Cond.methodLink R_Mod 84 y_Mod_look ∈ gws := tm 454 (by decide +kernel) rfl
theorem kM_Mod_90 : Cond.methodLink R_Mod 90 y_Mod_isWord ∈ gws := tm 458 (by decide +kernel) rfl
theorem kM_Mod_94 : Cond.methodLink R_Mod 94 y_Mod_none ∈ gws := tm 462 (by decide +kernel) rfl
theorem kK_Mod_34 : Cond.constantLong R_Mod 34 (9221120237041090560) ∈ gws := tm 465 (by decide +kernel) rfl
theorem kK_Mod_36 : Cond.constantLong R_Mod 36 (2143289344) ∈ gws := tm 466 (by decide +kernel) rfl
theorem kM_Mod_104 : Cond.methodLink R_Mod 104 y_Mod_isInfinity ∈ gws := tm 467 (by decide +kernel) rfl
theorem kM_Mod_46 : Cond.methodLink R_Mod 46 y_Mod_infinite ∈ gws := tm 471 (by decide +kernel) rfl
theorem kK_Mod_30 : Cond.constantLong R_Mod 30 (9218868437227405312) ∈ gws := tm 474 (by decide +kernel) rfl
theorem kK_Mod_32 : Cond.constantLong R_Mod 32 (2139095040) ∈ gws := tm 475 (by decide +kernel) rfl
theorem kM_Mod_108 : Cond.methodLink R_Mod 108 y_Mod_literal ∈ gws := tm 476 (by decide +kernel) rfl
theorem kM_Mod_116 : Cond.methodLink R_Mod 116 y_Mod_digits ∈ gws := tm 480 (by decide +kernel) rfl
theorem kM_Mod_87 : Cond.methodLink R_Mod 87 y_Mod_digitOf ∈ gws := tm 484 (by decide +kernel) rfl
theorem kM_Mod_119 : Cond.methodLink R_Mod 119 y_Mod_skips ∈ gws := tm 487 (by decide +kernel) rfl
theorem kK_Mod_123 : Cond.constantLong R_Mod 123 (-1) ∈ gws := tm 491 (by decide +kernel) rfl
theorem kK_Mod_125 : Cond.constantLong R_Mod 125 (10) ∈ gws := tm 492 (by decide +kernel) rfl
theorem kK_Mod_127 : Cond.constantLong R_Mod 127 (48) ∈ gws := tm 493 (by decide +kernel) rfl
theorem kK_Mod_129 : Cond.constantLong R_Mod 129 (100000000) ∈ gws := tm 494 (by decide +kernel) rfl
theorem kM_Mod_131 : Cond.methodLink R_Mod 131 y_Mod_sized16 ∈ gws := tm 495 (by decide +kernel) rfl
theorem kM_Mod_142 : Cond.methodLink R_Mod 142 y_Mod_gather ∈ gws := tm 499 (by decide +kernel) rfl
theorem kM_Mod_138 : Cond.methodLink R_Mod 138 y_Mod_set ∈ gws := tm 503 (by decide +kernel) rfl
theorem kK_Mod_19 : Cond.constantLong R_Mod 19 (65535) ∈ gws := tm 507 (by decide +kernel) rfl
theorem kM_Mod_21 : Cond.methodLink R_Mod 21 y_Mod_trim ∈ gws := tm 508 (by decide +kernel) rfl
theorem kM_Mod_26 : Cond.methodLink R_Mod 26 y_Mod_grow ∈ gws := tm 512 (by decide +kernel) rfl
theorem kK_Mod_25 : Cond.constant R_Mod 25 (65535) ∈ gws := tm 516 (by decide +kernel) rfl
theorem kK_Mod_146 : Cond.constantLong R_Mod 146 (4) ∈ gws := tm 517 (by decide +kernel) rfl
theorem kM_Mod_42 : Cond.methodLink R_Mod 42 y_Mod_bitsOf ∈ gws := tm 518 (by decide +kernel) rfl
theorem kK_Mod_148 : Cond.constantLong R_Mod 148 (-1200) ∈ gws := tm 522 (by decide +kernel) rfl
theorem kK_Mod_150 : Cond.constantLong R_Mod 150 (1200) ∈ gws := tm 523 (by decide +kernel) rfl
theorem kM_Mod_50 : Cond.methodLink R_Mod 50 y_Mod_raise ∈ gws := tm 524 (by decide +kernel) rfl
theorem kM_Mod_152 : Cond.methodLink R_Mod 152 y_Mod_nearest ∈ gws := tm 528 (by decide +kernel) rfl
theorem kM_Mod_53 : Cond.methodLink R_Mod 53 y_Mod_compareRows ∈ gws := tm 532 (by decide +kernel) rfl
theorem kM_Mod_57 : Cond.methodLink R_Mod 57 y_Mod_lessen ∈ gws := tm 536 (by decide +kernel) rfl
theorem kK_Mod_60 : Cond.constantLong R_Mod 60 (2) ∈ gws := tm 540 (by decide +kernel) rfl
theorem kM_Mod_62 : Cond.methodLink R_Mod 62 y_Mod_halve ∈ gws := tm 541 (by decide +kernel) rfl
theorem kM_Mod_66 : Cond.methodLink R_Mod 66 y_Mod_rounded ∈ gws := tm 545 (by decide +kernel) rfl
theorem kK_Mod_70 : Cond.constantLong R_Mod 70 (2047) ∈ gws := tm 549 (by decide +kernel) rfl
theorem kM_Mod_135 : Cond.methodLink R_Mod 135 y_Mod_sized10 ∈ gws := tm 550 (by decide +kernel) rfl
theorem kK_Mod_155 : Cond.constantLong R_Mod 155 (-400) ∈ gws := tm 554 (by decide +kernel) rfl
theorem kK_Mod_157 : Cond.constantLong R_Mod 157 (400) ∈ gws := tm 555 (by decide +kernel) rfl
theorem kM_Mod_112 : Cond.methodLink R_Mod 112 y_Mod_signed ∈ gws := tm 556 (by decide +kernel) rfl
theorem kK_Mod_38 : Cond.constantLong R_Mod 38 (-9223372036854775808) ∈ gws := tm 559 (by decide +kernel) rfl
theorem kK_Mod_40 : Cond.constantLong R_Mod 40 (2147483648) ∈ gws := tm 560 (by decide +kernel) rfl
theorem kM_Law_38 : Cond.methodLink "NearestReaderLaw" 38 y_Mod_narrow ∈ gws := tm 561 (by decide +kernel) rfl
theorem kM_Law_43 : Cond.methodLink "NearestReaderLaw" 43 y_Mod_bits ∈ gws := tm 565 (by decide +kernel) rfl
theorem kM_Law_66 : Cond.methodLink "NearestReaderLaw" 66 y_Mod_readings ∈ gws := tm 569 (by decide +kernel) rfl
theorem kM_Law_48 : Cond.methodLink "NearestReaderLaw" 48 y_Mod_narrowed ∈ gws := tm 573 (by decide +kernel) rfl
theorem kK_Mod_163 : Cond.constantLong R_Mod 163 (9223372036854775807) ∈ gws := tm 577 (by decide +kernel) rfl
theorem kM_Mod_165 : Cond.methodLink R_Mod 165 y_Mod_load ∈ gws := tm 578 (by decide +kernel) rfl
theorem kM_Law_52 : Cond.methodLink "NearestReaderLaw" 52 y_Mod_widened ∈ gws := tm 582 (by decide +kernel) rfl
theorem kK_Mod_169 : Cond.constantLong R_Mod 169 (2147483647) ∈ gws := tm 586 (by decide +kernel) rfl
theorem kM_Law_57 : Cond.methodLink "NearestReaderLaw" 57 y_Mod_quotient ∈ gws := tm 587 (by decide +kernel) rfl
theorem kM_Law_62 : Cond.methodLink "NearestReaderLaw" 62 y_Mod_compare ∈ gws := tm 591 (by decide +kernel) rfl
theorem kK_Law_13 : Cond.constantLong "NearestReaderLaw" 13 (4294967295) ∈ gws := tm 595 (by decide +kernel) rfl
theorem kF_Str_9 : Cond.fieldLink R_Str 9 "java/lang/String" "value" "[B" ∈ gws := tm 596 (by decide +kernel) rfl
theorem kF_Str_15 : Cond.fieldLink R_Str 15 "java/lang/String" "coder" "B" ∈ gws := tm 597 (by decide +kernel) rfl
theorem kF_Rea_67 : Cond.fieldLink R_Rea 67 "NearestReader$Kind" "none" "J" ∈ gws := tm 598 (by decide +kernel) rfl
theorem kF_Rea_70 : Cond.fieldLink R_Rea 70 "NearestReader$Kind" "infinite" "J" ∈ gws := tm 599 (by decide +kernel) rfl
theorem kF_Kin_29 : Cond.fieldLink R_Kin 29 "NearestReader$Kind" "precision" "I" ∈ gws := tm 600 (by decide +kernel) rfl
theorem kF_Kin_33 : Cond.fieldLink R_Kin 33 "NearestReader$Kind" "lowestUnit" "I" ∈ gws := tm 601 (by decide +kernel) rfl
theorem kF_Kin_36 : Cond.fieldLink R_Kin 36 "NearestReader$Kind" "highestUnit" "I" ∈ gws := tm 602 (by decide +kernel) rfl
theorem kF_Kin_48 : Cond.fieldLink R_Kin 48 "NearestReader$Kind" "infinite" "J" ∈ gws := tm 603 (by decide +kernel) rfl
theorem kF_Dec_16 : Cond.fieldLink R_Dec 16 "NearestReader$Kind" "mostDigits" "I" ∈ gws := tm 604 (by decide +kernel) rfl
theorem kF_Dec_37 : Cond.fieldLink R_Dec 37 "NearestReader$Kind" "lowestPlace" "I" ∈ gws := tm 605 (by decide +kernel) rfl
theorem kF_Dec_40 : Cond.fieldLink R_Dec 40 "NearestReader$Kind" "highestPlace" "I" ∈ gws := tm 606 (by decide +kernel) rfl
theorem kF_Dec_43 : Cond.fieldLink R_Dec 43 "NearestReader$Kind" "infinite" "J" ∈ gws := tm 607 (by decide +kernel) rfl
theorem kF_Fra_27 : Cond.fieldLink R_Fra 27 "NearestReader$Kind" "precision" "I" ∈ gws := tm 608 (by decide +kernel) rfl
theorem kF_Kin_55 : Cond.fieldLink R_Kin 55 "NearestReader$Kind" "signBit" "J" ∈ gws := tm 609 (by decide +kernel) rfl
theorem kF_Rea_147 : Cond.fieldLink R_Rea 147 "NearestReader$Kind" "precision" "I" ∈ gws := tm 610 (by decide +kernel) rfl
theorem kF_Rea_150 : Cond.fieldLink R_Rea 150 "NearestReader$Kind" "lowestUnit" "I" ∈ gws := tm 611 (by decide +kernel) rfl
theorem kI_object : Cond.instanceMethod objectInit ∈ gws := tm 20 (by decide +kernel) rfl
theorem kC_object : Cond.code objectInit ⟨#[0xb1]⟩ 1 none ∈ gws := tm 21 rfl rfl
set_option maxRecDepth 100000 in
theorem kC_mmax : Cond.code Lib.Math.max.name Lib.Math.max.code 2 (some .int) ∈ gws := tm 281 rfl rfl
theorem kT_mmax : Cond.static Lib.Math.max.name ∈ gws := tm 280 (by decide +kernel) rfl
set_option maxRecDepth 100000 in
theorem kC_mmin : Cond.code Lib.Math.min.name Lib.Math.min.code 2 (some .int) ∈ gws := tm 176 rfl rfl
theorem kT_mmin : Cond.static Lib.Math.min.name ∈ gws := tm 175 (by decide +kernel) rfl
