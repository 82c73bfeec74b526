/-! The contracts by hand, by their numbers -/
theorem xv_48 {og : Nat → Option zm_C} : xV xVV xX xW og xc_48 := xv_room
theorem xv_58 {og : Nat → Option zm_C} : xV xVV xX xW og xc_58 := xv_addo
theorem xv_60 {og : Nat → Option zm_C} : xV xVV xX xW og xc_60 := xv_note60
theorem xv_61 {og : Nat → Option zm_C} : xV xVV xX xW og xc_61 := xv_note61
theorem xv_62 {og : Nat → Option zm_C} : xV xVV xX xW og xc_62 := xv_note62
theorem xv_174 {og : Nat → Option zm_C} : xV xVV xX xW og xc_174 := xv_bits
