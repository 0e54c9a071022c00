/-! ===== loop-free methods over loop-free ones (by program, wip/whole/gen_leaf.py) ===== -/
def csX0_forget : List (Nat × Nat × Nat × mj_PT) := []
theorem csX0_forget_ok : mj_Cs mX0_forget 1 csX0_forget := mj_Cs0
def tX0_forget : mj_PT := mj_ptw mX0_forget pX0_forget csX0_forget 5
theorem sdX0_forget : mj_Sd mX0_forget 1 tX0_forget := mj_ptw_sd dX0_forget ⟨by decide, rfl, fun h => (by cases h)⟩ csX0_forget_ok
def csX1_copyFrom : List (Nat × Nat × Nat × mj_PT) := [(13, 1, 5, mj_ptcp)]
theorem csX1_copyFrom_ok : mj_Cs mX1_copyFrom 2 csX1_copyFrom := (mj_CsCp (Nat.le_of_ble_eq_true rfl) (mj_gw_in (by decide +kernel)) mj_Cs0)
def tX1_copyFrom : mj_PT := mj_ptw mX1_copyFrom pX1_copyFrom csX1_copyFrom 10
theorem sdX1_copyFrom : mj_Sd mX1_copyFrom 2 tX1_copyFrom := mj_ptw_sd dX1_copyFrom ⟨by decide, rfl, fun h => (by cases h)⟩ csX1_copyFrom_ok
def csX1_hasColumn : List (Nat × Nat × Nat × mj_PT) := []
theorem csX1_hasColumn_ok : mj_Cs mX1_hasColumn 1 csX1_hasColumn := mj_Cs0
def tX1_hasColumn : mj_PT := mj_ptw mX1_hasColumn pX1_hasColumn csX1_hasColumn 13
theorem sdX1_hasColumn : mj_Sd mX1_hasColumn 1 tX1_hasColumn := mj_ptw_sd dX1_hasColumn ⟨by decide, rfl, fun h => (by cases h)⟩ csX1_hasColumn_ok
def csX1_thirdOf : List (Nat × Nat × Nat × mj_PT) := []
theorem csX1_thirdOf_ok : mj_Cs mX1_thirdOf 1 csX1_thirdOf := mj_Cs0
def tX1_thirdOf : mj_PT := mj_ptw mX1_thirdOf pX1_thirdOf csX1_thirdOf 18
theorem sdX1_thirdOf : mj_Sd mX1_thirdOf 1 tX1_thirdOf := mj_ptw_sd dX1_thirdOf ⟨by decide, rfl, fun h => (by cases h)⟩ csX1_thirdOf_ok
def csX1_secondsLeft : List (Nat × Nat × Nat × mj_PT) := []
theorem csX1_secondsLeft_ok : mj_Cs mX1_secondsLeft 1 csX1_secondsLeft := mj_Cs0
def tX1_secondsLeft : mj_PT := mj_ptw mX1_secondsLeft pX1_secondsLeft csX1_secondsLeft 9
theorem sdX1_secondsLeft : mj_Sd mX1_secondsLeft 1 tX1_secondsLeft := mj_ptw_sd dX1_secondsLeft ⟨by decide, rfl, fun h => (by cases h)⟩ csX1_secondsLeft_ok
def csX2_begin : List (Nat × Nat × Nat × mj_PT) := []
theorem csX2_begin_ok : mj_Cs mX2_begin 1 csX2_begin := mj_Cs0
def tX2_begin : mj_PT := mj_ptw mX2_begin pX2_begin csX2_begin 5
theorem sdX2_begin : mj_Sd mX2_begin 1 tX2_begin := mj_ptw_sd dX2_begin ⟨by decide, rfl, fun h => (by cases h)⟩ csX2_begin_ok
def csX2_next : List (Nat × Nat × Nat × mj_PT) := []
theorem csX2_next_ok : mj_Cs mX2_next 1 csX2_next := mj_Cs0
def tX2_next : mj_PT := mj_ptw mX2_next pX2_next csX2_next 23
theorem sdX2_next : mj_Sd mX2_next 1 tX2_next := mj_ptw_sd dX2_next ⟨by decide, rfl, fun h => (by cases h)⟩ csX2_next_ok
def csX3_empty : List (Nat × Nat × Nat × mj_PT) := []
theorem csX3_empty_ok : mj_Cs mX3_empty 1 csX3_empty := mj_Cs0
def tX3_empty : mj_PT := mj_ptw mX3_empty pX3_empty csX3_empty 8
theorem sdX3_empty : mj_Sd mX3_empty 1 tX3_empty := mj_ptw_sd dX3_empty ⟨by decide, rfl, fun h => (by cases h)⟩ csX3_empty_ok
def csX3_join : List (Nat × Nat × Nat × mj_PT) := []
theorem csX3_join_ok : mj_Cs mX3_join 1 csX3_join := mj_Cs0
def tX3_join : mj_PT := mj_ptw mX3_join pX3_join csX3_join 84
theorem sdX3_join : mj_Sd mX3_join 1 tX3_join := mj_ptw_sd dX3_join ⟨by decide, rfl, fun h => (by cases h)⟩ csX3_join_ok
def csX3_joinDuel : List (Nat × Nat × Nat × mj_PT) := []
theorem csX3_joinDuel_ok : mj_Cs mX3_joinDuel 1 csX3_joinDuel := mj_Cs0
def tX3_joinDuel : mj_PT := mj_ptw mX3_joinDuel pX3_joinDuel csX3_joinDuel 47
theorem sdX3_joinDuel : mj_Sd mX3_joinDuel 1 tX3_joinDuel := mj_ptw_sd dX3_joinDuel ⟨by decide, rfl, fun h => (by cases h)⟩ csX3_joinDuel_ok
def csX3_isBeside : List (Nat × Nat × Nat × mj_PT) := []
theorem csX3_isBeside_ok : mj_Cs mX3_isBeside 1 csX3_isBeside := mj_Cs0
def tX3_isBeside : mj_PT := mj_ptw mX3_isBeside pX3_isBeside csX3_isBeside 21
theorem sdX3_isBeside : mj_Sd mX3_isBeside 1 tX3_isBeside := mj_ptw_sd dX3_isBeside ⟨by decide, rfl, fun h => (by cases h)⟩ csX3_isBeside_ok
def csX3_speedUp : List (Nat × Nat × Nat × mj_PT) := []
theorem csX3_speedUp_ok : mj_Cs mX3_speedUp 1 csX3_speedUp := mj_Cs0
def tX3_speedUp : mj_PT := mj_ptw mX3_speedUp pX3_speedUp csX3_speedUp 19
theorem sdX3_speedUp : mj_Sd mX3_speedUp 1 tX3_speedUp := mj_ptw_sd dX3_speedUp ⟨by decide, rfl, fun h => (by cases h)⟩ csX3_speedUp_ok
def csX3_slowDown : List (Nat × Nat × Nat × mj_PT) := []
theorem csX3_slowDown_ok : mj_Cs mX3_slowDown 1 csX3_slowDown := mj_Cs0
def tX3_slowDown : mj_PT := mj_ptw mX3_slowDown pX3_slowDown csX3_slowDown 15
theorem sdX3_slowDown : mj_Sd mX3_slowDown 1 tX3_slowDown := mj_ptw_sd dX3_slowDown ⟨by decide, rfl, fun h => (by cases h)⟩ csX3_slowDown_ok
def csX4_comesNow : List (Nat × Nat × Nat × mj_PT) := []
theorem csX4_comesNow_ok : mj_Cs mX4_comesNow 1 csX4_comesNow := mj_Cs0
def tX4_comesNow : mj_PT := mj_ptw mX4_comesNow pX4_comesNow csX4_comesNow 11
theorem sdX4_comesNow : mj_Sd mX4_comesNow 1 tX4_comesNow := mj_ptw_sd dX4_comesNow ⟨by decide, rfl, fun h => (by cases h)⟩ csX4_comesNow_ok
def csX5_canSee : List (Nat × Nat × Nat × mj_PT) := []
theorem csX5_canSee_ok : mj_Cs mX5_canSee 1 csX5_canSee := mj_Cs0
def tX5_canSee : mj_PT := mj_ptw mX5_canSee pX5_canSee csX5_canSee 18
theorem sdX5_canSee : mj_Sd mX5_canSee 1 tX5_canSee := mj_ptw_sd dX5_canSee ⟨by decide, rfl, fun h => (by cases h)⟩ csX5_canSee_ok
def csX5_addPicture : List (Nat × Nat × Nat × mj_PT) := []
theorem csX5_addPicture_ok : mj_Cs mX5_addPicture 1 csX5_addPicture := mj_Cs0
def tX5_addPicture : mj_PT := mj_ptw mX5_addPicture pX5_addPicture csX5_addPicture 50
theorem sdX5_addPicture : mj_Sd mX5_addPicture 1 tX5_addPicture := mj_ptw_sd dX5_addPicture ⟨by decide, rfl, fun h => (by cases h)⟩ csX5_addPicture_ok
def csX5_isSeen : List (Nat × Nat × Nat × mj_PT) := []
theorem csX5_isSeen_ok : mj_Cs mX5_isSeen 1 csX5_isSeen := mj_Cs0
def tX5_isSeen : mj_PT := mj_ptw mX5_isSeen pX5_isSeen csX5_isSeen 54
theorem sdX5_isSeen : mj_Sd mX5_isSeen 1 tX5_isSeen := mj_ptw_sd dX5_isSeen ⟨by decide, rfl, fun h => (by cases h)⟩ csX5_isSeen_ok
def csX6_has : List (Nat × Nat × Nat × mj_PT) := []
theorem csX6_has_ok : mj_Cs mX6_has 1 csX6_has := mj_Cs0
def tX6_has : mj_PT := mj_ptw mX6_has pX6_has csX6_has 11
theorem sdX6_has : mj_Sd mX6_has 1 tX6_has := mj_ptw_sd dX6_has ⟨by decide, rfl, fun h => (by cases h)⟩ csX6_has_ok
def csX6_letterAt : List (Nat × Nat × Nat × mj_PT) := []
theorem csX6_letterAt_ok : mj_Cs mX6_letterAt 1 csX6_letterAt := mj_Cs0
def tX6_letterAt : mj_PT := mj_ptw mX6_letterAt pX6_letterAt csX6_letterAt 13
theorem sdX6_letterAt : mj_Sd mX6_letterAt 1 tX6_letterAt := mj_ptw_sd dX6_letterAt ⟨by decide, rfl, fun h => (by cases h)⟩ csX6_letterAt_ok
def csX7_emit : List (Nat × Nat × Nat × mj_PT) := []
theorem csX7_emit_ok : mj_Cs mX7_emit 1 csX7_emit := mj_Cs0
def tX7_emit : mj_PT := mj_ptw mX7_emit pX7_emit csX7_emit 20
theorem sdX7_emit : mj_Sd mX7_emit 1 tX7_emit := mj_ptw_sd dX7_emit ⟨by decide, rfl, fun h => (by cases h)⟩ csX7_emit_ok
def csX8_rewind : List (Nat × Nat × Nat × mj_PT) := []
theorem csX8_rewind_ok : mj_Cs mX8_rewind 1 csX8_rewind := mj_Cs0
def tX8_rewind : mj_PT := mj_ptw mX8_rewind pX8_rewind csX8_rewind 5
theorem sdX8_rewind : mj_Sd mX8_rewind 1 tX8_rewind := mj_ptw_sd dX8_rewind ⟨by decide, rfl, fun h => (by cases h)⟩ csX8_rewind_ok
def csX8_rawSign : List (Nat × Nat × Nat × mj_PT) := []
theorem csX8_rawSign_ok : mj_Cs mX8_rawSign 1 csX8_rawSign := mj_Cs0
def tX8_rawSign : mj_PT := mj_ptw mX8_rawSign pX8_rawSign csX8_rawSign 21
theorem sdX8_rawSign : mj_Sd mX8_rawSign 1 tX8_rawSign := mj_ptw_sd dX8_rawSign ⟨by decide, rfl, fun h => (by cases h)⟩ csX8_rawSign_ok
def csX8_isDigit : List (Nat × Nat × Nat × mj_PT) := []
theorem csX8_isDigit_ok : mj_Cs mX8_isDigit 1 csX8_isDigit := mj_Cs0
def tX8_isDigit : mj_PT := mj_ptw mX8_isDigit pX8_isDigit csX8_isDigit 11
theorem sdX8_isDigit : mj_Sd mX8_isDigit 1 tX8_isDigit := mj_ptw_sd dX8_isDigit ⟨by decide, rfl, fun h => (by cases h)⟩ csX8_isDigit_ok
def csX11_end : List (Nat × Nat × Nat × mj_PT) := []
theorem csX11_end_ok : mj_Cs mX11_end 1 csX11_end := mj_Cs0
def tX11_end : mj_PT := mj_ptw mX11_end pX11_end csX11_end 16
theorem sdX11_end : mj_Sd mX11_end 1 tX11_end := mj_ptw_sd dX11_end ⟨by decide, rfl, fun h => (by cases h)⟩ csX11_end_ok
def csX11_gust : List (Nat × Nat × Nat × mj_PT) := []
theorem csX11_gust_ok : mj_Cs mX11_gust 1 csX11_gust := mj_Cs0
def tX11_gust : mj_PT := mj_ptw mX11_gust pX11_gust csX11_gust 17
theorem sdX11_gust : mj_Sd mX11_gust 1 tX11_gust := mj_ptw_sd dX11_gust ⟨by decide, rfl, fun h => (by cases h)⟩ csX11_gust_ok
def csX11_count : List (Nat × Nat × Nat × mj_PT) := []
theorem csX11_count_ok : mj_Cs mX11_count 1 csX11_count := mj_Cs0
def tX11_count : mj_PT := mj_ptw mX11_count pX11_count csX11_count 36
theorem sdX11_count : mj_Sd mX11_count 1 tX11_count := mj_ptw_sd dX11_count ⟨by decide, rfl, fun h => (by cases h)⟩ csX11_count_ok
def csX11_hasWater : List (Nat × Nat × Nat × mj_PT) := []
theorem csX11_hasWater_ok : mj_Cs mX11_hasWater 1 csX11_hasWater := mj_Cs0
def tX11_hasWater : mj_PT := mj_ptw mX11_hasWater pX11_hasWater csX11_hasWater 9
theorem sdX11_hasWater : mj_Sd mX11_hasWater 1 tX11_hasWater := mj_ptw_sd dX11_hasWater ⟨by decide, rfl, fun h => (by cases h)⟩ csX11_hasWater_ok
def csX11_isBoat : List (Nat × Nat × Nat × mj_PT) := []
theorem csX11_isBoat_ok : mj_Cs mX11_isBoat 1 csX11_isBoat := mj_Cs0
def tX11_isBoat : mj_PT := mj_ptw mX11_isBoat pX11_isBoat csX11_isBoat 12
theorem sdX11_isBoat : mj_Sd mX11_isBoat 1 tX11_isBoat := mj_ptw_sd dX11_isBoat ⟨by decide, rfl, fun h => (by cases h)⟩ csX11_isBoat_ok
def csX11_isChoice : List (Nat × Nat × Nat × mj_PT) := []
theorem csX11_isChoice_ok : mj_Cs mX11_isChoice 1 csX11_isChoice := mj_Cs0
def tX11_isChoice : mj_PT := mj_ptw mX11_isChoice pX11_isChoice csX11_isChoice 10
theorem sdX11_isChoice : mj_Sd mX11_isChoice 1 tX11_isChoice := mj_ptw_sd dX11_isChoice ⟨by decide, rfl, fun h => (by cases h)⟩ csX11_isChoice_ok
def csX12_in : List (Nat × Nat × Nat × mj_PT) := []
theorem csX12_in_ok : mj_Cs mX12_in 1 csX12_in := mj_Cs0
def tX12_in : mj_PT := mj_ptw mX12_in pX12_in csX12_in 11
theorem sdX12_in : mj_Sd mX12_in 1 tX12_in := mj_ptw_sd dX12_in ⟨by decide, rfl, fun h => (by cases h)⟩ csX12_in_ok
def csX12_has : List (Nat × Nat × Nat × mj_PT) := []
theorem csX12_has_ok : mj_Cs mX12_has 1 csX12_has := mj_Cs0
def tX12_has : mj_PT := mj_ptw mX12_has pX12_has csX12_has 12
theorem sdX12_has : mj_Sd mX12_has 1 tX12_has := mj_ptw_sd dX12_has ⟨by decide, rfl, fun h => (by cases h)⟩ csX12_has_ok
def csX12_thrown : List (Nat × Nat × Nat × mj_PT) := []
theorem csX12_thrown_ok : mj_Cs mX12_thrown 1 csX12_thrown := mj_Cs0
def tX12_thrown : mj_PT := mj_ptw mX12_thrown pX12_thrown csX12_thrown 4
theorem sdX12_thrown : mj_Sd mX12_thrown 1 tX12_thrown := mj_ptw_sd dX12_thrown ⟨by decide, rfl, fun h => (by cases h)⟩ csX12_thrown_ok
def csX12_end : List (Nat × Nat × Nat × mj_PT) := []
theorem csX12_end_ok : mj_Cs mX12_end 1 csX12_end := mj_Cs0
def tX12_end : mj_PT := mj_ptw mX12_end pX12_end csX12_end 14
theorem sdX12_end : mj_Sd mX12_end 1 tX12_end := mj_ptw_sd dX12_end ⟨by decide, rfl, fun h => (by cases h)⟩ csX12_end_ok
def csX12_here : List (Nat × Nat × Nat × mj_PT) := []
theorem csX12_here_ok : mj_Cs mX12_here 1 csX12_here := mj_Cs0
def tX12_here : mj_PT := mj_ptw mX12_here pX12_here csX12_here 14
theorem sdX12_here : mj_Sd mX12_here 1 tX12_here := mj_ptw_sd dX12_here ⟨by decide, rfl, fun h => (by cases h)⟩ csX12_here_ok
def csX12_bad : List (Nat × Nat × Nat × mj_PT) := []
theorem csX12_bad_ok : mj_Cs mX12_bad 1 csX12_bad := mj_Cs0
def tX12_bad : mj_PT := mj_ptw mX12_bad pX12_bad csX12_bad 13
theorem sdX12_bad : mj_Sd mX12_bad 1 tX12_bad := mj_ptw_sd dX12_bad ⟨by decide, rfl, fun h => (by cases h)⟩ csX12_bad_ok
def csX12_isDigit : List (Nat × Nat × Nat × mj_PT) := []
theorem csX12_isDigit_ok : mj_Cs mX12_isDigit 1 csX12_isDigit := mj_Cs0
def tX12_isDigit : mj_PT := mj_ptw mX12_isDigit pX12_isDigit csX12_isDigit 11
theorem sdX12_isDigit : mj_Sd mX12_isDigit 1 tX12_isDigit := mj_ptw_sd dX12_isDigit ⟨by decide, rfl, fun h => (by cases h)⟩ csX12_isDigit_ok
def csX12_put : List (Nat × Nat × Nat × mj_PT) := []
theorem csX12_put_ok : mj_Cs mX12_put 1 csX12_put := mj_Cs0
def tX12_put : mj_PT := mj_ptw mX12_put pX12_put csX12_put 39
theorem sdX12_put : mj_Sd mX12_put 1 tX12_put := mj_ptw_sd dX12_put ⟨by decide, rfl, fun h => (by cases h)⟩ csX12_put_ok
def csX12_opens : List (Nat × Nat × Nat × mj_PT) := [(125, 0, 1, mj_rcv 12 tX12_bad)]
theorem csX12_opens_ok : mj_Cs mX12_opens 2 csX12_opens := (mj_CsV (D' := 1) (ci := 12) (q := (RX12, TX12, 45)) sdX12_bad (Nat.le_of_ble_eq_true rfl) fX12_bad rfl rfl iX12_bad vX12_bad (by decide +kernel) l12_125 mj_Cs0)
def tX12_opens : mj_PT := mj_ptw mX12_opens pX12_opens csX12_opens 20
theorem sdX12_opens : mj_Sd mX12_opens 2 tX12_opens := mj_ptw_sd dX12_opens ⟨by decide, rfl, fun h => (by cases h)⟩ csX12_opens_ok
def csX12_open : List (Nat × Nat × Nat × mj_PT) := []
theorem csX12_open_ok : mj_Cs mX12_open 1 csX12_open := mj_Cs0
def tX12_open : mj_PT := mj_ptw mX12_open pX12_open csX12_open 24
theorem sdX12_open : mj_Sd mX12_open 1 tX12_open := mj_ptw_sd dX12_open ⟨by decide, rfl, fun h => (by cases h)⟩ csX12_open_ok
def csX12_of : List (Nat × Nat × Nat × mj_PT) := []
theorem csX12_of_ok : mj_Cs mX12_of 1 csX12_of := mj_Cs0
def tX12_of : mj_PT := mj_ptw mX12_of pX12_of csX12_of 10
theorem sdX12_of : mj_Sd mX12_of 1 tX12_of := mj_ptw_sd dX12_of ⟨by decide, rfl, fun h => (by cases h)⟩ csX12_of_ok
def csX12_put_ : List (Nat × Nat × Nat × mj_PT) := []
theorem csX12_put__ok : mj_Cs mX12_put_ 1 csX12_put_ := mj_Cs0
def tX12_put_ : mj_PT := mj_ptw mX12_put_ pX12_put_ csX12_put_ 11
theorem sdX12_put_ : mj_Sd mX12_put_ 1 tX12_put_ := mj_ptw_sd dX12_put_ ⟨by decide, rfl, fun h => (by cases h)⟩ csX12_put__ok
def csX12_isBoat : List (Nat × Nat × Nat × mj_PT) := [(214, 1, 3, tX12_in)]
theorem csX12_isBoat_ok : mj_Cs mX12_isBoat 2 csX12_isBoat := (mj_CsS (D' := 1) sdX12_in (Nat.le_of_ble_eq_true rfl) fX12_in sX12_in (by decide +kernel) l12_214 mj_Cs0)
def tX12_isBoat : mj_PT := mj_ptw mX12_isBoat pX12_isBoat csX12_isBoat 9
theorem sdX12_isBoat : mj_Sd mX12_isBoat 2 tX12_isBoat := mj_ptw_sd dX12_isBoat ⟨by decide, rfl, fun h => (by cases h)⟩ csX12_isBoat_ok
def csX12_most : List (Nat × Nat × Nat × mj_PT) := []
theorem csX12_most_ok : mj_Cs mX12_most 1 csX12_most := mj_Cs0
def tX12_most : mj_PT := mj_ptw mX12_most pX12_most csX12_most 10
theorem sdX12_most : mj_Sd mX12_most 1 tX12_most := mj_ptw_sd dX12_most ⟨by decide, rfl, fun h => (by cases h)⟩ csX12_most_ok
def csX12_leftSeconds : List (Nat × Nat × Nat × mj_PT) := []
theorem csX12_leftSeconds_ok : mj_Cs mX12_leftSeconds 1 csX12_leftSeconds := mj_Cs0
def tX12_leftSeconds : mj_PT := mj_ptw mX12_leftSeconds pX12_leftSeconds csX12_leftSeconds 11
theorem sdX12_leftSeconds : mj_Sd mX12_leftSeconds 1 tX12_leftSeconds := mj_ptw_sd dX12_leftSeconds ⟨by decide, rfl, fun h => (by cases h)⟩ csX12_leftSeconds_ok
def csX12_line : List (Nat × Nat × Nat × mj_PT) := [(214, 1, 3, tX12_in)]
theorem csX12_line_ok : mj_Cs mX12_line 2 csX12_line := (mj_CsS (D' := 1) sdX12_in (Nat.le_of_ble_eq_true rfl) fX12_in sX12_in (by decide +kernel) l12_214 mj_Cs0)
def tX12_line : mj_PT := mj_ptw mX12_line pX12_line csX12_line 16
theorem sdX12_line : mj_Sd mX12_line 2 tX12_line := mj_ptw_sd dX12_line ⟨by decide, rfl, fun h => (by cases h)⟩ csX12_line_ok
def csX12_faster : List (Nat × Nat × Nat × mj_PT) := [(274, 0, 4, mj_rcv 12 tX12_put_), (283, 0, 3, mj_rcv 12 tX12_of), (295, 1, 2, mj_ptmx), (309, 0, 2, mj_rcv 12 tX12_most), (321, 1, 2, mj_ptmn)]
theorem csX12_faster_ok : mj_Cs mX12_faster 2 csX12_faster := (mj_CsV (D' := 1) (ci := 12) (q := (RX12, TX12, 45)) sdX12_put_ (Nat.le_of_ble_eq_true rfl) fX12_put_ rfl rfl iX12_put_ vX12_put_ (by decide +kernel) l12_274 (mj_CsV (D' := 1) (ci := 12) (q := (RX12, TX12, 45)) sdX12_of (Nat.le_of_ble_eq_true rfl) fX12_of rfl rfl iX12_of vX12_of (by decide +kernel) l12_283 (mj_Csmx (Nat.le_of_ble_eq_true rfl) l12_295 (mj_CsV (D' := 1) (ci := 12) (q := (RX12, TX12, 45)) sdX12_most (Nat.le_of_ble_eq_true rfl) fX12_most rfl rfl iX12_most vX12_most (by decide +kernel) l12_309 (mj_Csmn (Nat.le_of_ble_eq_true rfl) l12_321 mj_Cs0)))))
def tX12_faster : mj_PT := mj_ptw mX12_faster pX12_faster csX12_faster 18
theorem sdX12_faster : mj_Sd mX12_faster 2 tX12_faster := mj_ptw_sd dX12_faster ⟨by decide, rfl, fun h => (by cases h)⟩ csX12_faster_ok
def csX12_gust : List (Nat × Nat × Nat × mj_PT) := [(214, 1, 3, tX12_in)]
theorem csX12_gust_ok : mj_Cs mX12_gust 2 csX12_gust := (mj_CsS (D' := 1) sdX12_in (Nat.le_of_ble_eq_true rfl) fX12_in sX12_in (by decide +kernel) l12_214 mj_Cs0)
def tX12_gust : mj_PT := mj_ptw mX12_gust pX12_gust csX12_gust 17
theorem sdX12_gust : mj_Sd mX12_gust 2 tX12_gust := mj_ptw_sd dX12_gust ⟨by decide, rfl, fun h => (by cases h)⟩ csX12_gust_ok
def csX12_areSeconds : List (Nat × Nat × Nat × mj_PT) := [(214, 1, 3, tX12_in), (323, 0, 1, mj_rcv 12 tX12_leftSeconds)]
theorem csX12_areSeconds_ok : mj_Cs mX12_areSeconds 2 csX12_areSeconds := (mj_CsS (D' := 1) sdX12_in (Nat.le_of_ble_eq_true rfl) fX12_in sX12_in (by decide +kernel) l12_214 (mj_CsV (D' := 1) (ci := 12) (q := (RX12, TX12, 45)) sdX12_leftSeconds (Nat.le_of_ble_eq_true rfl) fX12_leftSeconds rfl rfl iX12_leftSeconds vX12_leftSeconds (by decide +kernel) l12_323 mj_Cs0))
def tX12_areSeconds : mj_PT := mj_ptw mX12_areSeconds pX12_areSeconds csX12_areSeconds 14
theorem sdX12_areSeconds : mj_Sd mX12_areSeconds 2 tX12_areSeconds := mj_ptw_sd dX12_areSeconds ⟨by decide, rfl, fun h => (by cases h)⟩ csX12_areSeconds_ok
def csX12_draw : List (Nat × Nat × Nat × mj_PT) := []
theorem csX12_draw_ok : mj_Cs mX12_draw 1 csX12_draw := mj_Cs0
def tX12_draw : mj_PT := mj_ptw mX12_draw pX12_draw csX12_draw 18
theorem sdX12_draw : mj_Sd mX12_draw 1 tX12_draw := mj_ptw_sd dX12_draw ⟨by decide, rfl, fun h => (by cases h)⟩ csX12_draw_ok
def csX12_thirdOf : List (Nat × Nat × Nat × mj_PT) := [(283, 0, 3, mj_rcv 12 tX12_of)]
theorem csX12_thirdOf_ok : mj_Cs mX12_thirdOf 2 csX12_thirdOf := (mj_CsV (D' := 1) (ci := 12) (q := (RX12, TX12, 45)) sdX12_of (Nat.le_of_ble_eq_true rfl) fX12_of rfl rfl iX12_of vX12_of (by decide +kernel) l12_283 mj_Cs0)
def tX12_thirdOf : mj_PT := mj_ptw mX12_thirdOf pX12_thirdOf csX12_thirdOf 13
theorem sdX12_thirdOf : mj_Sd mX12_thirdOf 2 tX12_thirdOf := mj_ptw_sd dX12_thirdOf ⟨by decide, rfl, fun h => (by cases h)⟩ csX12_thirdOf_ok
def csX12_isLaw : List (Nat × Nat × Nat × mj_PT) := [(214, 1, 3, tX12_in)]
theorem csX12_isLaw_ok : mj_Cs mX12_isLaw 2 csX12_isLaw := (mj_CsS (D' := 1) sdX12_in (Nat.le_of_ble_eq_true rfl) fX12_in sX12_in (by decide +kernel) l12_214 mj_Cs0)
def tX12_isLaw : mj_PT := mj_ptw mX12_isLaw pX12_isLaw csX12_isLaw 16
theorem sdX12_isLaw : mj_Sd mX12_isLaw 2 tX12_isLaw := mj_ptw_sd dX12_isLaw ⟨by decide, rfl, fun h => (by cases h)⟩ csX12_isLaw_ok
def csX12_picture : List (Nat × Nat × Nat × mj_PT) := [(214, 1, 3, tX12_in), (306, 0, 2, mj_rcv 12 tX12_isBoat)]
theorem csX12_picture_ok : mj_Cs mX12_picture 3 csX12_picture := (mj_CsS (D' := 1) sdX12_in (Nat.le_of_ble_eq_true rfl) fX12_in sX12_in (by decide +kernel) l12_214 (mj_CsV (D' := 2) (ci := 12) (q := (RX12, TX12, 45)) sdX12_isBoat (Nat.le_of_ble_eq_true rfl) fX12_isBoat rfl rfl iX12_isBoat vX12_isBoat (by decide +kernel) l12_306 mj_Cs0))
def tX12_picture : mj_PT := mj_ptw mX12_picture pX12_picture csX12_picture 46
theorem sdX12_picture : mj_Sd mX12_picture 3 tX12_picture := mj_ptw_sd dX12_picture ⟨by decide, rfl, fun h => (by cases h)⟩ csX12_picture_ok
def csX12_count : List (Nat × Nat × Nat × mj_PT) := []
theorem csX12_count_ok : mj_Cs mX12_count 1 csX12_count := mj_Cs0
def tX12_count : mj_PT := mj_ptw mX12_count pX12_count csX12_count 31
theorem sdX12_count : mj_Sd mX12_count 1 tX12_count := mj_ptw_sd dX12_count ⟨by decide, rfl, fun h => (by cases h)⟩ csX12_count_ok
def csJ6_signum_0f7a4 : List (Nat × Nat × Nat × mj_PT) := []
theorem csJ6_signum_0f7a4_ok : mj_Cs mJ6_signum_0f7a4 1 csJ6_signum_0f7a4 := mj_Cs0
def tJ6_signum_0f7a4 : mj_PT := mj_ptw mJ6_signum_0f7a4 pJ6_signum_0f7a4 csJ6_signum_0f7a4 10
theorem sdJ6_signum_0f7a4 : mj_Sd mJ6_signum_0f7a4 1 tJ6_signum_0f7a4 := mj_ptw_sd dJ6_signum_0f7a4 ⟨by decide, rfl, fun h => (by cases h)⟩ csJ6_signum_0f7a4_ok
def csJ0_coder_7d493 : List (Nat × Nat × Nat × mj_PT) := []
theorem csJ0_coder_7d493_ok : mj_Cs mJ0_coder_7d493 1 csJ0_coder_7d493 := mj_Cs0
def tJ0_coder_7d493 : mj_PT := mj_ptw mJ0_coder_7d493 pJ0_coder_7d493 csJ0_coder_7d493 8
theorem sdJ0_coder_7d493 : mj_Sd mJ0_coder_7d493 1 tJ0_coder_7d493 := mj_ptw_sd dJ0_coder_7d493 ⟨by decide, rfl, fun h => (by cases h)⟩ csJ0_coder_7d493_ok
def csJ0_isLatin1_aae02 : List (Nat × Nat × Nat × mj_PT) := []
theorem csJ0_isLatin1_aae02_ok : mj_Cs mJ0_isLatin1_aae02 1 csJ0_isLatin1_aae02 := mj_Cs0
def tJ0_isLatin1_aae02 : mj_PT := mj_ptw mJ0_isLatin1_aae02 pJ0_isLatin1_aae02 csJ0_isLatin1_aae02 10
theorem sdJ0_isLatin1_aae02 : mj_Sd mJ0_isLatin1_aae02 1 tJ0_isLatin1_aae02 := mj_ptw_sd dJ0_isLatin1_aae02 ⟨by decide, rfl, fun h => (by cases h)⟩ csJ0_isLatin1_aae02_ok
def csJ1_canEncode_9a6ad : List (Nat × Nat × Nat × mj_PT) := []
theorem csJ1_canEncode_9a6ad_ok : mj_Cs mJ1_canEncode_9a6ad 1 csJ1_canEncode_9a6ad := mj_Cs0
def tJ1_canEncode_9a6ad : mj_PT := mj_ptw mJ1_canEncode_9a6ad pJ1_canEncode_9a6ad csJ1_canEncode_9a6ad 10
theorem sdJ1_canEncode_9a6ad : mj_Sd mJ1_canEncode_9a6ad 1 tJ1_canEncode_9a6ad := mj_ptw_sd dJ1_canEncode_9a6ad ⟨by decide, rfl, fun h => (by cases h)⟩ csJ1_canEncode_9a6ad_ok
def csX3_setForDuel : List (Nat × Nat × Nat × mj_PT) := [(43, 0, 1, mj_rcv 3 tX3_empty), (46, 0, 3, mj_rcv 3 tX3_joinDuel)]
theorem csX3_setForDuel_ok : mj_Cs mX3_setForDuel 2 csX3_setForDuel := (mj_CsV (D' := 1) (ci := 3) (q := (RX3, TX3, 10)) sdX3_empty (Nat.le_of_ble_eq_true rfl) fX3_empty rfl rfl iX3_empty vX3_empty (by decide +kernel) l3_43 (mj_CsV (D' := 1) (ci := 3) (q := (RX3, TX3, 10)) sdX3_joinDuel (Nat.le_of_ble_eq_true rfl) fX3_joinDuel rfl rfl iX3_joinDuel vX3_joinDuel (by decide +kernel) l3_46 mj_Cs0))
def tX3_setForDuel : mj_PT := mj_ptw mX3_setForDuel pX3_setForDuel csX3_setForDuel 12
theorem sdX3_setForDuel : mj_Sd mX3_setForDuel 2 tX3_setForDuel := mj_ptw_sd dX3_setForDuel ⟨by decide, rfl, fun h => (by cases h)⟩ csX3_setForDuel_ok
def csX11_line : List (Nat × Nat × Nat × mj_PT) := [(204, 0, 1, mj_rcv 11 tX11_hasWater)]
theorem csX11_line_ok : mj_Cs mX11_line 2 csX11_line := (mj_CsV (D' := 1) (ci := 11) (q := (RX11, TX11, 18)) sdX11_hasWater (Nat.le_of_ble_eq_true rfl) fX11_hasWater rfl rfl iX11_hasWater vX11_hasWater (by decide +kernel) l11_204 mj_Cs0)
def tX11_line : mj_PT := mj_ptw mX11_line pX11_line csX11_line 17
theorem sdX11_line : mj_Sd mX11_line 2 tX11_line := mj_ptw_sd dX11_line ⟨by decide, rfl, fun h => (by cases h)⟩ csX11_line_ok
def csX11_canPass : List (Nat × Nat × Nat × mj_PT) := [(204, 0, 1, mj_rcv 11 tX11_hasWater), (243, 0, 2, mj_rcv 1 tX1_secondsLeft)]
theorem csX11_canPass_ok : mj_Cs mX11_canPass 2 csX11_canPass := (mj_CsV (D' := 1) (ci := 11) (q := (RX11, TX11, 18)) sdX11_hasWater (Nat.le_of_ble_eq_true rfl) fX11_hasWater rfl rfl iX11_hasWater vX11_hasWater (by decide +kernel) l11_204 (mj_CsV (D' := 1) (ci := 1) (q := (RX1, TX1, 1)) sdX1_secondsLeft (Nat.le_of_ble_eq_true rfl) fX1_secondsLeft rfl rfl iX1_secondsLeft vX1_secondsLeft (by decide +kernel) l11_243 mj_Cs0))
def tX11_canPass : mj_PT := mj_ptw mX11_canPass pX11_canPass csX11_canPass 18
theorem sdX11_canPass : mj_Sd mX11_canPass 2 tX11_canPass := mj_ptw_sd dX11_canPass ⟨by decide, rfl, fun h => (by cases h)⟩ csX11_canPass_ok
def csX11_tides : List (Nat × Nat × Nat × mj_PT) := [(204, 0, 1, mj_rcv 11 tX11_hasWater)]
theorem csX11_tides_ok : mj_Cs mX11_tides 2 csX11_tides := (mj_CsV (D' := 1) (ci := 11) (q := (RX11, TX11, 18)) sdX11_hasWater (Nat.le_of_ble_eq_true rfl) fX11_hasWater rfl rfl iX11_hasWater vX11_hasWater (by decide +kernel) l11_204 mj_Cs0)
def tX11_tides : mj_PT := mj_ptw mX11_tides pX11_tides csX11_tides 30
theorem sdX11_tides : mj_Sd mX11_tides 2 tX11_tides := mj_ptw_sd dX11_tides ⟨by decide, rfl, fun h => (by cases h)⟩ csX11_tides_ok
def csX11_picture : List (Nat × Nat × Nat × mj_PT) := [(160, 0, 2, mj_rcv 11 tX11_isBoat), (312, 0, 3, mj_rcv 5 tX5_canSee), (315, 0, 4, mj_rcv 5 tX5_addPicture)]
theorem csX11_picture_ok : mj_Cs mX11_picture 2 csX11_picture := (mj_CsV (D' := 1) (ci := 11) (q := (RX11, TX11, 18)) sdX11_isBoat (Nat.le_of_ble_eq_true rfl) fX11_isBoat rfl rfl iX11_isBoat vX11_isBoat (by decide +kernel) l11_160 (mj_CsV (D' := 1) (ci := 5) (q := (RX5, TX5, 6)) sdX5_canSee (Nat.le_of_ble_eq_true rfl) fX5_canSee rfl rfl iX5_canSee vX5_canSee (by decide +kernel) l11_312 (mj_CsV (D' := 1) (ci := 5) (q := (RX5, TX5, 6)) sdX5_addPicture (Nat.le_of_ble_eq_true rfl) fX5_addPicture rfl rfl iX5_addPicture vX5_addPicture (by decide +kernel) l11_315 mj_Cs0)))
def tX11_picture : mj_PT := mj_ptw mX11_picture pX11_picture csX11_picture 20
theorem sdX11_picture : mj_Sd mX11_picture 2 tX11_picture := mj_ptw_sd dX11_picture ⟨by decide, rfl, fun h => (by cases h)⟩ csX11_picture_ok
def csX11_points : List (Nat × Nat × Nat × mj_PT) := [(160, 0, 2, mj_rcv 11 tX11_isBoat)]
theorem csX11_points_ok : mj_Cs mX11_points 2 csX11_points := (mj_CsV (D' := 1) (ci := 11) (q := (RX11, TX11, 18)) sdX11_isBoat (Nat.le_of_ble_eq_true rfl) fX11_isBoat rfl rfl iX11_isBoat vX11_isBoat (by decide +kernel) l11_160 mj_Cs0)
def tX11_points : mj_PT := mj_ptw mX11_points pX11_points csX11_points 13
theorem sdX11_points : mj_Sd mX11_points 2 tX11_points := mj_ptw_sd dX11_points ⟨by decide, rfl, fun h => (by cases h)⟩ csX11_points_ok
def csJ0_length_8abf5 : List (Nat × Nat × Nat × mj_PT) := [(335, 0, 1, mj_rcS tJ0_coder_7d493)]
theorem csJ0_length_8abf5_ok : mj_Cs mJ0_length_8abf5 2 csJ0_length_8abf5 := (mj_CsVS (D' := 1) sdJ0_coder_7d493 (Nat.le_of_ble_eq_true rfl) fJ0_coder_7d493 rfl iJ0_coder_7d493 vJ0_coder_7d493 (by decide +kernel) l14_335 mj_Cs0)
def tJ0_length_8abf5 : mj_PT := mj_ptw mJ0_length_8abf5 pJ0_length_8abf5 csJ0_length_8abf5 8
theorem sdJ0_length_8abf5 : mj_Sd mJ0_length_8abf5 2 tJ0_length_8abf5 := mj_ptw_sd dJ0_length_8abf5 ⟨by decide, rfl, fun h => (by cases h)⟩ csJ0_length_8abf5_ok
