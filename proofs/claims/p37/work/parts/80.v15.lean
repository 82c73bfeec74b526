/-! The contracts hold, as checked -/
set_option maxRecDepth 100000 in
theorem xc_252_0 : xchk0 xVV xc_252_m xc_252_u xc_252 xc_252_e 89 = true := by decide +kernel
set_option maxRecDepth 100000 in
theorem xc_252_1 : xc_252_e.all (xchk1 xVV xc_252_m xc_252_u xc_252 xc_252_e 89) = true := by decide +kernel
theorem xv_252 {og : Nat → Option zm_C} : xV xVV xX xW og xc_252 := xchk_ok (n := 89) (MT := xc_252_m) (CT := xc_252_u) (E := xc_252_e) (by
  simp only [xc_252_m, List.forall_mem_cons]
  exact ⟨rfl, fun _ h => by cases h⟩) (by
  simp only [xc_252_u, List.forall_mem_cons]
  exact fun _ h => by cases h) xFl_good xXW_ok xc_252_0 (List.all_eq_true.mp xc_252_1)
set_option maxRecDepth 100000 in
theorem xc_253_0 : xchk0 xVV xc_253_m xc_253_u xc_253 xc_253_e 110 = true := by decide +kernel
set_option maxRecDepth 100000 in
theorem xc_253_1 : xc_253_e.all (xchk1 xVV xc_253_m xc_253_u xc_253 xc_253_e 110) = true := by decide +kernel
theorem xv_253 {og : Nat → Option zm_C} : xV xVV xX xW og xc_253 := xchk_ok (n := 110) (MT := xc_253_m) (CT := xc_253_u) (E := xc_253_e) (by
  simp only [xc_253_m, List.forall_mem_cons]
  exact ⟨rfl, fun _ h => by cases h⟩) (by
  simp only [xc_253_u, List.forall_mem_cons]
  exact fun _ h => by cases h) xFl_good xXW_ok xc_253_0 (List.all_eq_true.mp xc_253_1)
set_option maxRecDepth 100000 in
theorem xc_254_0 : xchk0 xVV xc_254_m xc_254_u xc_254 xc_254_e 112 = true := by decide +kernel
set_option maxRecDepth 100000 in
theorem xc_254_1 : xc_254_e.all (xchk1 xVV xc_254_m xc_254_u xc_254 xc_254_e 112) = true := by decide +kernel
theorem xv_254 {og : Nat → Option zm_C} : xV xVV xX xW og xc_254 := xchk_ok (n := 112) (MT := xc_254_m) (CT := xc_254_u) (E := xc_254_e) (by
  simp only [xc_254_m, List.forall_mem_cons]
  exact ⟨rfl, fun _ h => by cases h⟩) (by
  simp only [xc_254_u, List.forall_mem_cons]
  exact fun _ h => by cases h) xFl_good xXW_ok xc_254_0 (List.all_eq_true.mp xc_254_1)
set_option maxRecDepth 100000 in
theorem xc_255_0 : xchk0 xVV xc_255_m xc_255_u xc_255 xc_255_e 195 = true := by decide +kernel
set_option maxRecDepth 100000 in
theorem xc_255_1 : xc_255_e.all (xchk1 xVV xc_255_m xc_255_u xc_255 xc_255_e 195) = true := by decide +kernel
theorem xv_255 {og : Nat → Option zm_C} : xV xVV xX xW og xc_255 := xchk_ok (n := 195) (MT := xc_255_m) (CT := xc_255_u) (E := xc_255_e) (by
  simp only [xc_255_m, List.forall_mem_cons]
  exact ⟨rfl, fun _ h => by cases h⟩) (by
  simp only [xc_255_u, List.forall_mem_cons]
  exact fun _ h => by cases h) xFl_good xXW_ok xc_255_0 (List.all_eq_true.mp xc_255_1)
set_option maxRecDepth 100000 in
theorem xc_259_0 : xchk0 xVV xc_259_m xc_259_u xc_259 xc_259_e 218 = true := by decide +kernel
set_option maxRecDepth 100000 in
theorem xc_259_1 : xc_259_e.all (xchk1 xVV xc_259_m xc_259_u xc_259 xc_259_e 218) = true := by decide +kernel
theorem xv_259 {og : Nat → Option zm_C} : xV xVV xX xW og xc_259 := xchk_ok (n := 218) (MT := xc_259_m) (CT := xc_259_u) (E := xc_259_e) (by
  simp only [xc_259_m, List.forall_mem_cons]
  exact ⟨rfl, rfl, fun _ h => by cases h⟩) (by
  simp only [xc_259_u, List.forall_mem_cons]
  exact fun _ h => by cases h) xFl_good xXW_ok xc_259_0 (List.all_eq_true.mp xc_259_1)
set_option maxRecDepth 100000 in
theorem xc_260_0 : xchk0 xVV xc_260_m xc_260_u xc_260 xc_260_e 150 = true := by decide +kernel
set_option maxRecDepth 100000 in
theorem xc_260_1 : xc_260_e.all (xchk1 xVV xc_260_m xc_260_u xc_260 xc_260_e 150) = true := by decide +kernel
theorem xv_260 {og : Nat → Option zm_C} : xV xVV xX xW og xc_260 := xchk_ok (n := 150) (MT := xc_260_m) (CT := xc_260_u) (E := xc_260_e) (by
  simp only [xc_260_m, List.forall_mem_cons]
  exact ⟨rfl, rfl, rfl, fun _ h => by cases h⟩) (by
  simp only [xc_260_u, List.forall_mem_cons]
  exact ⟨xv_254, fun _ h => by cases h⟩) xFl_good xXW_ok xc_260_0 (List.all_eq_true.mp xc_260_1)
set_option maxRecDepth 100000 in
theorem xc_261_0 : xchk0 xVV xc_261_m xc_261_u xc_261 xc_261_e 208 = true := by decide +kernel
set_option maxRecDepth 100000 in
theorem xc_261_1 : xc_261_e.all (xchk1 xVV xc_261_m xc_261_u xc_261 xc_261_e 208) = true := by decide +kernel
theorem xv_261 {og : Nat → Option zm_C} : xV xVV xX xW og xc_261 := xchk_ok (n := 208) (MT := xc_261_m) (CT := xc_261_u) (E := xc_261_e) (by
  simp only [xc_261_m, List.forall_mem_cons]
  exact ⟨rfl, rfl, fun _ h => by cases h⟩) (by
  simp only [xc_261_u, List.forall_mem_cons]
  exact fun _ h => by cases h) xFl_good xXW_ok xc_261_0 (List.all_eq_true.mp xc_261_1)
set_option maxRecDepth 100000 in
theorem xc_262_0 : xchk0 xVV xc_262_m xc_262_u xc_262 xc_262_e 192 = true := by decide +kernel
set_option maxRecDepth 100000 in
theorem xc_262_1 : xc_262_e.all (xchk1 xVV xc_262_m xc_262_u xc_262 xc_262_e 192) = true := by decide +kernel
theorem xv_262 {og : Nat → Option zm_C} : xV xVV xX xW og xc_262 := xchk_ok (n := 192) (MT := xc_262_m) (CT := xc_262_u) (E := xc_262_e) (by
  simp only [xc_262_m, List.forall_mem_cons]
  exact ⟨rfl, rfl, rfl, rfl, rfl, rfl, rfl, rfl, rfl, rfl, fun _ h => by cases h⟩) (by
  simp only [xc_262_u, List.forall_mem_cons]
  exact ⟨xv_246, xv_245, xv_244, xv_240, xv_238, xv_236, fun _ h => by cases h⟩) xFl_good xXW_ok xc_262_0 (List.all_eq_true.mp xc_262_1)
set_option maxRecDepth 100000 in
theorem xc_263_0 : xchk0 xVV xc_263_m xc_263_u xc_263 xc_263_e 172 = true := by decide +kernel
set_option maxRecDepth 100000 in
theorem xc_263_1 : xc_263_e.all (xchk1 xVV xc_263_m xc_263_u xc_263 xc_263_e 172) = true := by decide +kernel
theorem xv_263 {og : Nat → Option zm_C} : xV xVV xX xW og xc_263 := xchk_ok (n := 172) (MT := xc_263_m) (CT := xc_263_u) (E := xc_263_e) (by
  simp only [xc_263_m, List.forall_mem_cons]
  exact ⟨rfl, rfl, rfl, rfl, rfl, fun _ h => by cases h⟩) (by
  simp only [xc_263_u, List.forall_mem_cons]
  exact ⟨xv_250, fun _ h => by cases h⟩) xFl_good xXW_ok xc_263_0 (List.all_eq_true.mp xc_263_1)
set_option maxRecDepth 100000 in
theorem xc_264_0 : xchk0 xVV xc_264_m xc_264_u xc_264 xc_264_e 90 = true := by decide +kernel
set_option maxRecDepth 100000 in
theorem xc_264_1 : xc_264_e.all (xchk1 xVV xc_264_m xc_264_u xc_264 xc_264_e 90) = true := by decide +kernel
theorem xv_264 {og : Nat → Option zm_C} : xV xVV xX xW og xc_264 := xchk_ok (n := 90) (MT := xc_264_m) (CT := xc_264_u) (E := xc_264_e) (by
  simp only [xc_264_m, List.forall_mem_cons]
  exact ⟨rfl, rfl, fun _ h => by cases h⟩) (by
  simp only [xc_264_u, List.forall_mem_cons]
  exact fun _ h => by cases h) xFl_good xXW_ok xc_264_0 (List.all_eq_true.mp xc_264_1)
set_option maxRecDepth 100000 in
theorem xc_265_0 : xchk0 xVV xc_265_m xc_265_u xc_265 xc_265_e 220 = true := by decide +kernel
set_option maxRecDepth 100000 in
theorem xc_265_1 : xc_265_e.all (xchk1 xVV xc_265_m xc_265_u xc_265 xc_265_e 220) = true := by decide +kernel
theorem xv_265 {og : Nat → Option zm_C} : xV xVV xX xW og xc_265 := xchk_ok (n := 220) (MT := xc_265_m) (CT := xc_265_u) (E := xc_265_e) (by
  simp only [xc_265_m, List.forall_mem_cons]
  exact ⟨rfl, fun _ h => by cases h⟩) (by
  simp only [xc_265_u, List.forall_mem_cons]
  exact fun _ h => by cases h) xFl_good xXW_ok xc_265_0 (List.all_eq_true.mp xc_265_1)
set_option maxRecDepth 100000 in
theorem xc_266_0 : xchk0 xVV xc_266_m xc_266_u xc_266 xc_266_e 149 = true := by decide +kernel
set_option maxRecDepth 100000 in
theorem xc_266_1 : xc_266_e.all (xchk1 xVV xc_266_m xc_266_u xc_266 xc_266_e 149) = true := by decide +kernel
theorem xv_266 {og : Nat → Option zm_C} : xV xVV xX xW og xc_266 := xchk_ok (n := 149) (MT := xc_266_m) (CT := xc_266_u) (E := xc_266_e) (by
  simp only [xc_266_m, List.forall_mem_cons]
  exact ⟨rfl, rfl, fun _ h => by cases h⟩) (by
  simp only [xc_266_u, List.forall_mem_cons]
  exact fun _ h => by cases h) xFl_good xXW_ok xc_266_0 (List.all_eq_true.mp xc_266_1)
set_option maxRecDepth 100000 in
theorem xc_267_0 : xchk0 xVV xc_267_m xc_267_u xc_267 xc_267_e 178 = true := by decide +kernel
set_option maxRecDepth 100000 in
theorem xc_267_1 : xc_267_e.all (xchk1 xVV xc_267_m xc_267_u xc_267 xc_267_e 178) = true := by decide +kernel
theorem xv_267 {og : Nat → Option zm_C} : xV xVV xX xW og xc_267 := xchk_ok (n := 178) (MT := xc_267_m) (CT := xc_267_u) (E := xc_267_e) (by
  simp only [xc_267_m, List.forall_mem_cons]
  exact ⟨rfl, rfl, fun _ h => by cases h⟩) (by
  simp only [xc_267_u, List.forall_mem_cons]
  exact fun _ h => by cases h) xFl_good xXW_ok xc_267_0 (List.all_eq_true.mp xc_267_1)
set_option maxRecDepth 100000 in
theorem xc_268_0 : xchk0 xVV xc_268_m xc_268_u xc_268 xc_268_e 713 = true := by decide +kernel
set_option maxRecDepth 100000 in
theorem xc_268_1 : xc_268_e.all (xchk1 xVV xc_268_m xc_268_u xc_268 xc_268_e 713) = true := by decide +kernel
theorem xv_268 {og : Nat → Option zm_C} : xV xVV xX xW og xc_268 := xchk_ok (n := 713) (MT := xc_268_m) (CT := xc_268_u) (E := xc_268_e) (by
  simp only [xc_268_m, List.forall_mem_cons]
  exact ⟨rfl, rfl, rfl, rfl, rfl, fun _ h => by cases h⟩) (by
  simp only [xc_268_u, List.forall_mem_cons]
  exact fun _ h => by cases h) xFl_good xXW_ok xc_268_0 (List.all_eq_true.mp xc_268_1)
set_option maxRecDepth 100000 in
theorem xc_269_0 : xchk0 xVV xc_269_m xc_269_u xc_269 xc_269_e 235 = true := by decide +kernel
set_option maxRecDepth 100000 in
theorem xc_269_1 : xc_269_e.all (xchk1 xVV xc_269_m xc_269_u xc_269 xc_269_e 235) = true := by decide +kernel
theorem xv_269 {og : Nat → Option zm_C} : xV xVV xX xW og xc_269 := xchk_ok (n := 235) (MT := xc_269_m) (CT := xc_269_u) (E := xc_269_e) (by
  simp only [xc_269_m, List.forall_mem_cons]
  exact ⟨rfl, rfl, rfl, rfl, rfl, fun _ h => by cases h⟩) (by
  simp only [xc_269_u, List.forall_mem_cons]
  exact fun _ h => by cases h) xFl_good xXW_ok xc_269_0 (List.all_eq_true.mp xc_269_1)
set_option maxRecDepth 100000 in
theorem xc_270_0 : xchk0 xVV xc_270_m xc_270_u xc_270 xc_270_e 159 = true := by decide +kernel
set_option maxRecDepth 100000 in
theorem xc_270_1 : xc_270_e.all (xchk1 xVV xc_270_m xc_270_u xc_270 xc_270_e 159) = true := by decide +kernel
theorem xv_270 {og : Nat → Option zm_C} : xV xVV xX xW og xc_270 := xchk_ok (n := 159) (MT := xc_270_m) (CT := xc_270_u) (E := xc_270_e) (by
  simp only [xc_270_m, List.forall_mem_cons]
  exact ⟨rfl, rfl, rfl, fun _ h => by cases h⟩) (by
  simp only [xc_270_u, List.forall_mem_cons]
  exact fun _ h => by cases h) xFl_good xXW_ok xc_270_0 (List.all_eq_true.mp xc_270_1)
set_option maxRecDepth 100000 in
theorem xc_271_0 : xchk0 xVV xc_271_m xc_271_u xc_271 xc_271_e 284 = true := by decide +kernel
set_option maxRecDepth 100000 in
theorem xc_271_1 : xc_271_e.all (xchk1 xVV xc_271_m xc_271_u xc_271 xc_271_e 284) = true := by decide +kernel
theorem xv_271 {og : Nat → Option zm_C} : xV xVV xX xW og xc_271 := xchk_ok (n := 284) (MT := xc_271_m) (CT := xc_271_u) (E := xc_271_e) (by
  simp only [xc_271_m, List.forall_mem_cons]
  exact ⟨rfl, rfl, rfl, rfl, fun _ h => by cases h⟩) (by
  simp only [xc_271_u, List.forall_mem_cons]
  exact fun _ h => by cases h) xFl_good xXW_ok xc_271_0 (List.all_eq_true.mp xc_271_1)
set_option maxRecDepth 100000 in
theorem xc_272_0 : xchk0 xVV xc_272_m xc_272_u xc_272 xc_272_e 135 = true := by decide +kernel
set_option maxRecDepth 100000 in
theorem xc_272_1 : xc_272_e.all (xchk1 xVV xc_272_m xc_272_u xc_272 xc_272_e 135) = true := by decide +kernel
theorem xv_272 {og : Nat → Option zm_C} : xV xVV xX xW og xc_272 := xchk_ok (n := 135) (MT := xc_272_m) (CT := xc_272_u) (E := xc_272_e) (by
  simp only [xc_272_m, List.forall_mem_cons]
  exact ⟨rfl, rfl, rfl, rfl, fun _ h => by cases h⟩) (by
  simp only [xc_272_u, List.forall_mem_cons]
  exact fun _ h => by cases h) xFl_good xXW_ok xc_272_0 (List.all_eq_true.mp xc_272_1)
set_option maxRecDepth 100000 in
theorem xc_273_0 : xchk0 xVV xc_273_m xc_273_u xc_273 xc_273_e 196 = true := by decide +kernel
set_option maxRecDepth 100000 in
theorem xc_273_1 : xc_273_e.all (xchk1 xVV xc_273_m xc_273_u xc_273 xc_273_e 196) = true := by decide +kernel
theorem xv_273 {og : Nat → Option zm_C} : xV xVV xX xW og xc_273 := xchk_ok (n := 196) (MT := xc_273_m) (CT := xc_273_u) (E := xc_273_e) (by
  simp only [xc_273_m, List.forall_mem_cons]
  exact ⟨rfl, fun _ h => by cases h⟩) (by
  simp only [xc_273_u, List.forall_mem_cons]
  exact fun _ h => by cases h) xFl_good xXW_ok xc_273_0 (List.all_eq_true.mp xc_273_1)
set_option maxRecDepth 100000 in
theorem xc_274_0 : xchk0 xVV xc_274_m xc_274_u xc_274 xc_274_e 87 = true := by decide +kernel
set_option maxRecDepth 100000 in
theorem xc_274_1 : xc_274_e.all (xchk1 xVV xc_274_m xc_274_u xc_274 xc_274_e 87) = true := by decide +kernel
theorem xv_274 {og : Nat → Option zm_C} : xV xVV xX xW og xc_274 := xchk_ok (n := 87) (MT := xc_274_m) (CT := xc_274_u) (E := xc_274_e) (by
  simp only [xc_274_m, List.forall_mem_cons]
  exact ⟨rfl, rfl, fun _ h => by cases h⟩) (by
  simp only [xc_274_u, List.forall_mem_cons]
  exact fun _ h => by cases h) xFl_good xXW_ok xc_274_0 (List.all_eq_true.mp xc_274_1)
set_option maxRecDepth 100000 in
theorem xc_275_0 : xchk0 xVV xc_275_m xc_275_u xc_275 xc_275_e 233 = true := by decide +kernel
set_option maxRecDepth 100000 in
theorem xc_275_1 : xc_275_e.all (xchk1 xVV xc_275_m xc_275_u xc_275 xc_275_e 233) = true := by decide +kernel
theorem xv_275 {og : Nat → Option zm_C} : xV xVV xX xW og xc_275 := xchk_ok (n := 233) (MT := xc_275_m) (CT := xc_275_u) (E := xc_275_e) (by
  simp only [xc_275_m, List.forall_mem_cons]
  exact ⟨rfl, rfl, rfl, rfl, rfl, rfl, fun _ h => by cases h⟩) (by
  simp only [xc_275_u, List.forall_mem_cons]
  exact ⟨xv_242, xv_241, xv_236, fun _ h => by cases h⟩) xFl_good xXW_ok xc_275_0 (List.all_eq_true.mp xc_275_1)
set_option maxRecDepth 100000 in
theorem xc_276_0 : xchk0 xVV xc_276_m xc_276_u xc_276 xc_276_e 56 = true := by decide +kernel
set_option maxRecDepth 100000 in
theorem xc_276_1 : xc_276_e.all (xchk1 xVV xc_276_m xc_276_u xc_276 xc_276_e 56) = true := by decide +kernel
theorem xv_276 {og : Nat → Option zm_C} : xV xVV xX xW og xc_276 := xchk_ok (n := 56) (MT := xc_276_m) (CT := xc_276_u) (E := xc_276_e) (by
  simp only [xc_276_m, List.forall_mem_cons]
  exact ⟨rfl, fun _ h => by cases h⟩) (by
  simp only [xc_276_u, List.forall_mem_cons]
  exact fun _ h => by cases h) xFl_good xXW_ok xc_276_0 (List.all_eq_true.mp xc_276_1)
set_option maxRecDepth 100000 in
theorem xc_277_0 : xchk0 xVV xc_277_m xc_277_u xc_277 xc_277_e 185 = true := by decide +kernel
set_option maxRecDepth 100000 in
theorem xc_277_1 : xc_277_e.all (xchk1 xVV xc_277_m xc_277_u xc_277 xc_277_e 185) = true := by decide +kernel
theorem xv_277 {og : Nat → Option zm_C} : xV xVV xX xW og xc_277 := xchk_ok (n := 185) (MT := xc_277_m) (CT := xc_277_u) (E := xc_277_e) (by
  simp only [xc_277_m, List.forall_mem_cons]
  exact ⟨rfl, rfl, rfl, rfl, rfl, rfl, rfl, fun _ h => by cases h⟩) (by
  simp only [xc_277_u, List.forall_mem_cons]
  exact ⟨xv_243, xv_240, fun _ h => by cases h⟩) xFl_good xXW_ok xc_277_0 (List.all_eq_true.mp xc_277_1)
set_option maxRecDepth 100000 in
theorem xc_278_0 : xchk0 xVV xc_278_m xc_278_u xc_278 xc_278_e 162 = true := by decide +kernel
set_option maxRecDepth 100000 in
theorem xc_278_1 : xc_278_e.all (xchk1 xVV xc_278_m xc_278_u xc_278 xc_278_e 162) = true := by decide +kernel
theorem xv_278 {og : Nat → Option zm_C} : xV xVV xX xW og xc_278 := xchk_ok (n := 162) (MT := xc_278_m) (CT := xc_278_u) (E := xc_278_e) (by
  simp only [xc_278_m, List.forall_mem_cons]
  exact ⟨rfl, rfl, rfl, rfl, rfl, rfl, rfl, fun _ h => by cases h⟩) (by
  simp only [xc_278_u, List.forall_mem_cons]
  exact ⟨xv_244, xv_240, xv_238, fun _ h => by cases h⟩) xFl_good xXW_ok xc_278_0 (List.all_eq_true.mp xc_278_1)
set_option maxRecDepth 100000 in
theorem xc_279_0 : xchk0 xVV xc_279_m xc_279_u xc_279 xc_279_e 160 = true := by decide +kernel
set_option maxRecDepth 100000 in
theorem xc_279_1 : xc_279_e.all (xchk1 xVV xc_279_m xc_279_u xc_279 xc_279_e 160) = true := by decide +kernel
theorem xv_279 {og : Nat → Option zm_C} : xV xVV xX xW og xc_279 := xchk_ok (n := 160) (MT := xc_279_m) (CT := xc_279_u) (E := xc_279_e) (by
  simp only [xc_279_m, List.forall_mem_cons]
  exact ⟨rfl, rfl, rfl, rfl, rfl, rfl, fun _ h => by cases h⟩) (by
  simp only [xc_279_u, List.forall_mem_cons]
  exact ⟨xv_245, xv_240, fun _ h => by cases h⟩) xFl_good xXW_ok xc_279_0 (List.all_eq_true.mp xc_279_1)
set_option maxRecDepth 100000 in
theorem xc_280_0 : xchk0 xVV xc_280_m xc_280_u xc_280 xc_280_e 149 = true := by decide +kernel
set_option maxRecDepth 100000 in
theorem xc_280_1 : xc_280_e.all (xchk1 xVV xc_280_m xc_280_u xc_280 xc_280_e 149) = true := by decide +kernel
theorem xv_280 {og : Nat → Option zm_C} : xV xVV xX xW og xc_280 := xchk_ok (n := 149) (MT := xc_280_m) (CT := xc_280_u) (E := xc_280_e) (by
  simp only [xc_280_m, List.forall_mem_cons]
  exact ⟨rfl, rfl, rfl, rfl, rfl, fun _ h => by cases h⟩) (by
  simp only [xc_280_u, List.forall_mem_cons]
  exact ⟨xv_251, fun _ h => by cases h⟩) xFl_good xXW_ok xc_280_0 (List.all_eq_true.mp xc_280_1)
set_option maxRecDepth 100000 in
theorem xc_281_0 : xchk0 xVV xc_281_m xc_281_u xc_281 xc_281_e 440 = true := by decide +kernel
set_option maxRecDepth 100000 in
theorem xc_281_1 : xc_281_e.all (xchk1 xVV xc_281_m xc_281_u xc_281 xc_281_e 440) = true := by decide +kernel
theorem xv_281 {og : Nat → Option zm_C} : xV xVV xX xW og xc_281 := xchk_ok (n := 440) (MT := xc_281_m) (CT := xc_281_u) (E := xc_281_e) (by
  simp only [xc_281_m, List.forall_mem_cons]
  exact ⟨rfl, rfl, rfl, rfl, rfl, rfl, rfl, rfl, rfl, rfl, rfl, fun _ h => by cases h⟩) (by
  simp only [xc_281_u, List.forall_mem_cons]
  exact ⟨xv_254, xv_251, xv_243, xv_240, fun _ h => by cases h⟩) xFl_good xXW_ok xc_281_0 (List.all_eq_true.mp xc_281_1)
set_option maxRecDepth 100000 in
theorem xc_282_0 : xchk0 xVV xc_282_m xc_282_u xc_282 xc_282_e 150 = true := by decide +kernel
set_option maxRecDepth 100000 in
theorem xc_282_1 : xc_282_e.all (xchk1 xVV xc_282_m xc_282_u xc_282 xc_282_e 150) = true := by decide +kernel
theorem xv_282 {og : Nat → Option zm_C} : xV xVV xX xW og xc_282 := xchk_ok (n := 150) (MT := xc_282_m) (CT := xc_282_u) (E := xc_282_e) (by
  simp only [xc_282_m, List.forall_mem_cons]
  exact ⟨rfl, rfl, fun _ h => by cases h⟩) (by
  simp only [xc_282_u, List.forall_mem_cons]
  exact fun _ h => by cases h) xFl_good xXW_ok xc_282_0 (List.all_eq_true.mp xc_282_1)
set_option maxRecDepth 100000 in
theorem xc_283_0 : xchk0 xVV xc_283_m xc_283_u xc_283 xc_283_e 233 = true := by decide +kernel
set_option maxRecDepth 100000 in
theorem xc_283_1 : xc_283_e.all (xchk1 xVV xc_283_m xc_283_u xc_283 xc_283_e 233) = true := by decide +kernel
theorem xv_283 {og : Nat → Option zm_C} : xV xVV xX xW og xc_283 := xchk_ok (n := 233) (MT := xc_283_m) (CT := xc_283_u) (E := xc_283_e) (by
  simp only [xc_283_m, List.forall_mem_cons]
  exact ⟨rfl, rfl, rfl, rfl, rfl, rfl, rfl, rfl, rfl, fun _ h => by cases h⟩) (by
  simp only [xc_283_u, List.forall_mem_cons]
  exact ⟨xv_252, xv_244, xv_240, xv_238, fun _ h => by cases h⟩) xFl_good xXW_ok xc_283_0 (List.all_eq_true.mp xc_283_1)
set_option maxRecDepth 100000 in
theorem xc_284_0 : xchk0 xVV xc_284_m xc_284_u xc_284 xc_284_e 328 = true := by decide +kernel
set_option maxRecDepth 100000 in
theorem xc_284_1 : xc_284_e.all (xchk1 xVV xc_284_m xc_284_u xc_284 xc_284_e 328) = true := by decide +kernel
theorem xv_284 {og : Nat → Option zm_C} : xV xVV xX xW og xc_284 := xchk_ok (n := 328) (MT := xc_284_m) (CT := xc_284_u) (E := xc_284_e) (by
  simp only [xc_284_m, List.forall_mem_cons]
  exact ⟨rfl, rfl, rfl, rfl, rfl, rfl, fun _ h => by cases h⟩) (by
  simp only [xc_284_u, List.forall_mem_cons]
  exact ⟨xv_245, xv_244, xv_240, xv_238, fun _ h => by cases h⟩) xFl_good xXW_ok xc_284_0 (List.all_eq_true.mp xc_284_1)
set_option maxRecDepth 100000 in
theorem xc_285_0 : xchk0 xVV xc_285_m xc_285_u xc_285 xc_285_e 207 = true := by decide +kernel
set_option maxRecDepth 100000 in
theorem xc_285_1 : xc_285_e.all (xchk1 xVV xc_285_m xc_285_u xc_285 xc_285_e 207) = true := by decide +kernel
theorem xv_285 {og : Nat → Option zm_C} : xV xVV xX xW og xc_285 := xchk_ok (n := 207) (MT := xc_285_m) (CT := xc_285_u) (E := xc_285_e) (by
  simp only [xc_285_m, List.forall_mem_cons]
  exact ⟨rfl, rfl, rfl, rfl, fun _ h => by cases h⟩) (by
  simp only [xc_285_u, List.forall_mem_cons]
  exact fun _ h => by cases h) xFl_good xXW_ok xc_285_0 (List.all_eq_true.mp xc_285_1)
set_option maxRecDepth 100000 in
theorem xc_286_0 : xchk0 xVV xc_286_m xc_286_u xc_286 xc_286_e 210 = true := by decide +kernel
set_option maxRecDepth 100000 in
theorem xc_286_1 : xc_286_e.all (xchk1 xVV xc_286_m xc_286_u xc_286 xc_286_e 210) = true := by decide +kernel
theorem xv_286 {og : Nat → Option zm_C} : xV xVV xX xW og xc_286 := xchk_ok (n := 210) (MT := xc_286_m) (CT := xc_286_u) (E := xc_286_e) (by
  simp only [xc_286_m, List.forall_mem_cons]
  exact ⟨rfl, rfl, rfl, rfl, rfl, rfl, rfl, fun _ h => by cases h⟩) (by
  simp only [xc_286_u, List.forall_mem_cons]
  exact ⟨xv_253, xv_246, xv_245, xv_240, xv_236, fun _ h => by cases h⟩) xFl_good xXW_ok xc_286_0 (List.all_eq_true.mp xc_286_1)
set_option maxRecDepth 100000 in
theorem xc_287_0 : xchk0 xVV xc_287_m xc_287_u xc_287 xc_287_e 220 = true := by decide +kernel
set_option maxRecDepth 100000 in
theorem xc_287_1 : xc_287_e.all (xchk1 xVV xc_287_m xc_287_u xc_287 xc_287_e 220) = true := by decide +kernel
theorem xv_287 {og : Nat → Option zm_C} : xV xVV xX xW og xc_287 := xchk_ok (n := 220) (MT := xc_287_m) (CT := xc_287_u) (E := xc_287_e) (by
  simp only [xc_287_m, List.forall_mem_cons]
  exact ⟨rfl, rfl, rfl, rfl, rfl, fun _ h => by cases h⟩) (by
  simp only [xc_287_u, List.forall_mem_cons]
  exact ⟨xv_252, fun _ h => by cases h⟩) xFl_good xXW_ok xc_287_0 (List.all_eq_true.mp xc_287_1)
set_option maxRecDepth 100000 in
theorem xc_288_0 : xchk0 xVV xc_288_m xc_288_u xc_288 xc_288_e 817 = true := by decide +kernel
set_option maxRecDepth 100000 in
theorem xc_288_1 : xc_288_e.all (xchk1 xVV xc_288_m xc_288_u xc_288 xc_288_e 817) = true := by decide +kernel
theorem xv_288 {og : Nat → Option zm_C} : xV xVV xX xW og xc_288 := xchk_ok (n := 817) (MT := xc_288_m) (CT := xc_288_u) (E := xc_288_e) (by
  simp only [xc_288_m, List.forall_mem_cons]
  exact ⟨rfl, rfl, rfl, rfl, rfl, fun _ h => by cases h⟩) (by
  simp only [xc_288_u, List.forall_mem_cons]
  exact fun _ h => by cases h) xFl_good xXW_ok xc_288_0 (List.all_eq_true.mp xc_288_1)
set_option maxRecDepth 100000 in
theorem xc_289_0 : xchk0 xVV xc_289_m xc_289_u xc_289 xc_289_e 424 = true := by decide +kernel
set_option maxRecDepth 100000 in
theorem xc_289_1 : xc_289_e.all (xchk1 xVV xc_289_m xc_289_u xc_289 xc_289_e 424) = true := by decide +kernel
theorem xv_289 {og : Nat → Option zm_C} : xV xVV xX xW og xc_289 := xchk_ok (n := 424) (MT := xc_289_m) (CT := xc_289_u) (E := xc_289_e) (by
  simp only [xc_289_m, List.forall_mem_cons]
  exact ⟨rfl, rfl, fun _ h => by cases h⟩) (by
  simp only [xc_289_u, List.forall_mem_cons]
  exact fun _ h => by cases h) xFl_good xXW_ok xc_289_0 (List.all_eq_true.mp xc_289_1)
set_option maxRecDepth 100000 in
theorem xc_290_0 : xchk0 xVV xc_290_m xc_290_u xc_290 xc_290_e 199 = true := by decide +kernel
set_option maxRecDepth 100000 in
theorem xc_290_1 : xc_290_e.all (xchk1 xVV xc_290_m xc_290_u xc_290 xc_290_e 199) = true := by decide +kernel
theorem xv_290 {og : Nat → Option zm_C} : xV xVV xX xW og xc_290 := xchk_ok (n := 199) (MT := xc_290_m) (CT := xc_290_u) (E := xc_290_e) (by
  simp only [xc_290_m, List.forall_mem_cons]
  exact ⟨rfl, rfl, rfl, rfl, rfl, rfl, rfl, rfl, fun _ h => by cases h⟩) (by
  simp only [xc_290_u, List.forall_mem_cons]
  exact ⟨xv_255, xv_252, xv_245, xv_241, xv_240, xv_237, fun _ h => by cases h⟩) xFl_good xXW_ok xc_290_0 (List.all_eq_true.mp xc_290_1)
set_option maxRecDepth 100000 in
theorem xc_291_0 : xchk0 xVV xc_291_m xc_291_u xc_291 xc_291_e 121 = true := by decide +kernel
set_option maxRecDepth 100000 in
theorem xc_291_1 : xc_291_e.all (xchk1 xVV xc_291_m xc_291_u xc_291 xc_291_e 121) = true := by decide +kernel
theorem xv_291 {og : Nat → Option zm_C} : xV xVV xX xW og xc_291 := xchk_ok (n := 121) (MT := xc_291_m) (CT := xc_291_u) (E := xc_291_e) (by
  simp only [xc_291_m, List.forall_mem_cons]
  exact ⟨rfl, rfl, fun _ h => by cases h⟩) (by
  simp only [xc_291_u, List.forall_mem_cons]
  exact fun _ h => by cases h) xFl_good xXW_ok xc_291_0 (List.all_eq_true.mp xc_291_1)
set_option maxRecDepth 100000 in
theorem xc_292_0 : xchk0 xVV xc_292_m xc_292_u xc_292 xc_292_e 90 = true := by decide +kernel
set_option maxRecDepth 100000 in
theorem xc_292_1 : xc_292_e.all (xchk1 xVV xc_292_m xc_292_u xc_292 xc_292_e 90) = true := by decide +kernel
theorem xv_292 {og : Nat → Option zm_C} : xV xVV xX xW og xc_292 := xchk_ok (n := 90) (MT := xc_292_m) (CT := xc_292_u) (E := xc_292_e) (by
  simp only [xc_292_m, List.forall_mem_cons]
  exact ⟨rfl, rfl, fun _ h => by cases h⟩) (by
  simp only [xc_292_u, List.forall_mem_cons]
  exact fun _ h => by cases h) xFl_good xXW_ok xc_292_0 (List.all_eq_true.mp xc_292_1)
set_option maxRecDepth 100000 in
theorem xc_293_0 : xchk0 xVV xc_293_m xc_293_u xc_293 xc_293_e 304 = true := by decide +kernel
set_option maxRecDepth 100000 in
theorem xc_293_1 : xc_293_e.all (xchk1 xVV xc_293_m xc_293_u xc_293 xc_293_e 304) = true := by decide +kernel
theorem xv_293 {og : Nat → Option zm_C} : xV xVV xX xW og xc_293 := xchk_ok (n := 304) (MT := xc_293_m) (CT := xc_293_u) (E := xc_293_e) (by
  simp only [xc_293_m, List.forall_mem_cons]
  exact ⟨rfl, rfl, rfl, rfl, rfl, rfl, rfl, rfl, rfl, rfl, rfl, fun _ h => by cases h⟩) (by
  simp only [xc_293_u, List.forall_mem_cons]
  exact ⟨xv_250, xv_245, xv_244, xv_242, xv_241, xv_239, xv_238, xv_236, xv_174, fun _ h => by cases h⟩) xFl_good xXW_ok xc_293_0 (List.all_eq_true.mp xc_293_1)
set_option maxRecDepth 100000 in
theorem xc_294_0 : xchk0 xVV xc_294_m xc_294_u xc_294 xc_294_e 111 = true := by decide +kernel
set_option maxRecDepth 100000 in
theorem xc_294_1 : xc_294_e.all (xchk1 xVV xc_294_m xc_294_u xc_294 xc_294_e 111) = true := by decide +kernel
theorem xv_294 {og : Nat → Option zm_C} : xV xVV xX xW og xc_294 := xchk_ok (n := 111) (MT := xc_294_m) (CT := xc_294_u) (E := xc_294_e) (by
  simp only [xc_294_m, List.forall_mem_cons]
  exact ⟨rfl, rfl, rfl, rfl, fun _ h => by cases h⟩) (by
  simp only [xc_294_u, List.forall_mem_cons]
  exact ⟨xv_244, xv_240, xv_238, fun _ h => by cases h⟩) xFl_good xXW_ok xc_294_0 (List.all_eq_true.mp xc_294_1)
