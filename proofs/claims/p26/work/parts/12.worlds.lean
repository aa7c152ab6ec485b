abbrev zHd : Type := (Int64) × (Int64) × (Int64) × (Int64) × (Int64) × (Int64) × (Int64)
abbrev gHd_old (S : zHd) : Int64 := S.1
abbrev gHd_new (S : zHd) : Int64 := S.2.1
abbrev gHd_bought (S : zHd) : Int64 := S.2.2.1
abbrev gHd_paid (S : zHd) : Int64 := S.2.2.2.1
abbrev gHd_inc (S : zHd) : Int64 := S.2.2.2.2.1
abbrev gHd_eve (S : zHd) : Int64 := S.2.2.2.2.2.1
abbrev gHd_lots (S : zHd) : Int64 := S.2.2.2.2.2.2
abbrev sHd_old (S : zHd) (v : Int64) : zHd := (v, S.2)
abbrev sHd_new (S : zHd) (v : Int64) : zHd := (S.1, v, S.2.2)
abbrev sHd_bought (S : zHd) (v : Int64) : zHd := (S.1, S.2.1, v, S.2.2.2)
abbrev sHd_paid (S : zHd) (v : Int64) : zHd := (S.1, S.2.1, S.2.2.1, v, S.2.2.2.2)
abbrev sHd_inc (S : zHd) (v : Int64) : zHd := (S.1, S.2.1, S.2.2.1, S.2.2.2.1, v, S.2.2.2.2.2)
abbrev sHd_eve (S : zHd) (v : Int64) : zHd := (S.1, S.2.1, S.2.2.1, S.2.2.2.1, S.2.2.2.2.1, v, S.2.2.2.2.2.2)
abbrev sHd_lots (S : zHd) (v : Int64) : zHd := (S.1, S.2.1, S.2.2.1, S.2.2.2.1, S.2.2.2.2.1, S.2.2.2.2.2.1, v)
abbrev zOd : Type := (Nat) × (Nat → Int32) × (Nat → Int32) × (Nat → Int32)
abbrev gOd_n (S : zOd) : Nat := S.1
abbrev gOd_ho (S : zOd) : Nat → Int32 := S.2.1
abbrev gOd_sz (S : zOd) : Nat → Int32 := S.2.2.1
abbrev gOd_dy (S : zOd) : Nat → Int32 := S.2.2.2
abbrev sOd_n (S : zOd) (v : Nat) : zOd := (v, S.2)
abbrev sOd_ho (S : zOd) (v : Nat → Int32) : zOd := (S.1, v, S.2.2)
abbrev sOd_sz (S : zOd) (v : Nat → Int32) : zOd := (S.1, S.2.1, v, S.2.2.2)
abbrev sOd_dy (S : zOd) (v : Nat → Int32) : zOd := (S.1, S.2.1, S.2.2.1, v)
abbrev zLd : Type := (Bool) × (Int64) × (Int64) × (Int64) × (Int64) × (Int64) × (Int32) × (Int32)
abbrev gLd_ended (S : zLd) : Bool := S.1
abbrev gLd_price (S : zLd) : Int64 := S.2.1
abbrev gLd_made (S : zLd) : Int64 := S.2.2.1
abbrev gLd_left (S : zLd) : Int64 := S.2.2.2.1
abbrev gLd_still (S : zLd) : Int64 := S.2.2.2.2.1
abbrev gLd_back (S : zLd) : Int64 := S.2.2.2.2.2.1
abbrev gLd_sold (S : zLd) : Int32 := S.2.2.2.2.2.2.1
abbrev gLd_swung (S : zLd) : Int32 := S.2.2.2.2.2.2.2
abbrev sLd_ended (S : zLd) (v : Bool) : zLd := (v, S.2)
abbrev sLd_price (S : zLd) (v : Int64) : zLd := (S.1, v, S.2.2)
abbrev sLd_made (S : zLd) (v : Int64) : zLd := (S.1, S.2.1, v, S.2.2.2)
abbrev sLd_left (S : zLd) (v : Int64) : zLd := (S.1, S.2.1, S.2.2.1, v, S.2.2.2.2)
abbrev sLd_still (S : zLd) (v : Int64) : zLd := (S.1, S.2.1, S.2.2.1, S.2.2.2.1, v, S.2.2.2.2.2)
abbrev sLd_back (S : zLd) (v : Int64) : zLd := (S.1, S.2.1, S.2.2.1, S.2.2.2.1, S.2.2.2.2.1, v, S.2.2.2.2.2.2)
abbrev sLd_sold (S : zLd) (v : Int32) : zLd := (S.1, S.2.1, S.2.2.1, S.2.2.2.1, S.2.2.2.2.1, S.2.2.2.2.2.1, v, S.2.2.2.2.2.2.2)
abbrev sLd_swung (S : zLd) (v : Int32) : zLd := (S.1, S.2.1, S.2.2.1, S.2.2.2.1, S.2.2.2.2.1, S.2.2.2.2.2.1, S.2.2.2.2.2.2.1, v)
abbrev zTr : Type := (Int64) × (Int64) × (Int64) × (Int32) × (Int32) × (Int32) × (Nat → Int32) × (Nat → zHd) × (zOd) × (zOd) × (zLd)
abbrev gTr_cash (S : zTr) : Int64 := S.1
abbrev gTr_pool (S : zTr) : Int64 := S.2.1
abbrev gTr_even (S : zTr) : Int64 := S.2.2.1
abbrev gTr_lots (S : zTr) : Int32 := S.2.2.2.1
abbrev gTr_quote (S : zTr) : Int32 := S.2.2.2.2.1
abbrev gTr_day (S : zTr) : Int32 := S.2.2.2.2.2.1
abbrev gTr_st (S : zTr) : Nat → Int32 := S.2.2.2.2.2.2.1
abbrev gTr_hd (S : zTr) : Nat → zHd := S.2.2.2.2.2.2.2.1
abbrev gTr_bu (S : zTr) : zOd := S.2.2.2.2.2.2.2.2.1
abbrev gTr_le (S : zTr) : zOd := S.2.2.2.2.2.2.2.2.2.1
abbrev gTr_la (S : zTr) : zLd := S.2.2.2.2.2.2.2.2.2.2
abbrev sTr_cash (S : zTr) (v : Int64) : zTr := (v, S.2)
abbrev sTr_pool (S : zTr) (v : Int64) : zTr := (S.1, v, S.2.2)
abbrev sTr_even (S : zTr) (v : Int64) : zTr := (S.1, S.2.1, v, S.2.2.2)
abbrev sTr_lots (S : zTr) (v : Int32) : zTr := (S.1, S.2.1, S.2.2.1, v, S.2.2.2.2)
abbrev sTr_quote (S : zTr) (v : Int32) : zTr := (S.1, S.2.1, S.2.2.1, S.2.2.2.1, v, S.2.2.2.2.2)
abbrev sTr_day (S : zTr) (v : Int32) : zTr := (S.1, S.2.1, S.2.2.1, S.2.2.2.1, S.2.2.2.2.1, v, S.2.2.2.2.2.2)
abbrev sTr_st (S : zTr) (v : Nat → Int32) : zTr := (S.1, S.2.1, S.2.2.1, S.2.2.2.1, S.2.2.2.2.1, S.2.2.2.2.2.1, v, S.2.2.2.2.2.2.2)
abbrev sTr_hd (S : zTr) (v : Nat → zHd) : zTr := (S.1, S.2.1, S.2.2.1, S.2.2.2.1, S.2.2.2.2.1, S.2.2.2.2.2.1, S.2.2.2.2.2.2.1, v, S.2.2.2.2.2.2.2.2)
abbrev sTr_bu (S : zTr) (v : zOd) : zTr := (S.1, S.2.1, S.2.2.1, S.2.2.2.1, S.2.2.2.2.1, S.2.2.2.2.2.1, S.2.2.2.2.2.2.1, S.2.2.2.2.2.2.2.1, v, S.2.2.2.2.2.2.2.2.2)
abbrev sTr_le (S : zTr) (v : zOd) : zTr := (S.1, S.2.1, S.2.2.1, S.2.2.2.1, S.2.2.2.2.1, S.2.2.2.2.2.1, S.2.2.2.2.2.2.1, S.2.2.2.2.2.2.2.1, S.2.2.2.2.2.2.2.2.1, v, S.2.2.2.2.2.2.2.2.2.2)
abbrev sTr_la (S : zTr) (v : zLd) : zTr := (S.1, S.2.1, S.2.2.1, S.2.2.2.1, S.2.2.2.2.1, S.2.2.2.2.2.1, S.2.2.2.2.2.2.1, S.2.2.2.2.2.2.2.1, S.2.2.2.2.2.2.2.2.1, S.2.2.2.2.2.2.2.2.2.1, v)
abbrev zDd : Type := (Int64) × (Int64) × (Int64) × (Int64) × (Int64) × (Int32) × (Nat → Int64)
abbrev gDd_middle (S : zDd) : Int64 := S.1
abbrev gDd_ui (S : zDd) : Int64 := S.2.1
abbrev gDd_price (S : zDd) : Int64 := S.2.2.1
abbrev gDd_wanted (S : zDd) : Int64 := S.2.2.2.1
abbrev gDd_allowed (S : zDd) : Int64 := S.2.2.2.2.1
abbrev gDd_swung (S : zDd) : Int32 := S.2.2.2.2.2.1
abbrev gDd_sh (S : zDd) : Nat → Int64 := S.2.2.2.2.2.2
abbrev sDd_middle (S : zDd) (v : Int64) : zDd := (v, S.2)
abbrev sDd_ui (S : zDd) (v : Int64) : zDd := (S.1, v, S.2.2)
abbrev sDd_price (S : zDd) (v : Int64) : zDd := (S.1, S.2.1, v, S.2.2.2)
abbrev sDd_wanted (S : zDd) (v : Int64) : zDd := (S.1, S.2.1, S.2.2.1, v, S.2.2.2.2)
abbrev sDd_allowed (S : zDd) (v : Int64) : zDd := (S.1, S.2.1, S.2.2.1, S.2.2.2.1, v, S.2.2.2.2.2)
abbrev sDd_swung (S : zDd) (v : Int32) : zDd := (S.1, S.2.1, S.2.2.1, S.2.2.2.1, S.2.2.2.2.1, v, S.2.2.2.2.2.2)
abbrev sDd_sh (S : zDd) (v : Nat → Int64) : zDd := (S.1, S.2.1, S.2.2.1, S.2.2.2.1, S.2.2.2.2.1, S.2.2.2.2.2.1, v)
abbrev zPd : Type := (Nat) × (Nat → Int32) × (Nat) × (Int32) × (Int32) × (Int32) × (Int32)
abbrev gPd_n (S : zPd) : Nat := S.1
abbrev gPd_sg (S : zPd) : Nat → Int32 := S.2.1
abbrev gPd_at (S : zPd) : Nat := S.2.2.1
abbrev gPd_ho (S : zPd) : Int32 := S.2.2.2.1
abbrev gPd_nu (S : zPd) : Int32 := S.2.2.2.2.1
abbrev gPd_hr (S : zPd) : Int32 := S.2.2.2.2.2.1
abbrev gPd_kd (S : zPd) : Int32 := S.2.2.2.2.2.2
abbrev sPd_n (S : zPd) (v : Nat) : zPd := (v, S.2)
abbrev sPd_sg (S : zPd) (v : Nat → Int32) : zPd := (S.1, v, S.2.2)
abbrev sPd_at (S : zPd) (v : Nat) : zPd := (S.1, S.2.1, v, S.2.2.2)
abbrev sPd_ho (S : zPd) (v : Int32) : zPd := (S.1, S.2.1, S.2.2.1, v, S.2.2.2.2)
abbrev sPd_nu (S : zPd) (v : Int32) : zPd := (S.1, S.2.1, S.2.2.1, S.2.2.2.1, v, S.2.2.2.2.2)
abbrev sPd_hr (S : zPd) (v : Int32) : zPd := (S.1, S.2.1, S.2.2.1, S.2.2.2.1, S.2.2.2.2.1, v, S.2.2.2.2.2.2)
abbrev sPd_kd (S : zPd) (v : Int32) : zPd := (S.1, S.2.1, S.2.2.1, S.2.2.2.1, S.2.2.2.2.1, S.2.2.2.2.2.1, v)
abbrev zHs : Type := (Nat) × (Nat) × (Nat → zTr)
abbrev gHs_first (S : zHs) : Nat := S.1
abbrev gHs_count (S : zHs) : Nat := S.2.1
abbrev gHs_st (S : zHs) : Nat → zTr := S.2.2
abbrev sHs_first (S : zHs) (v : Nat) : zHs := (v, S.2)
abbrev sHs_count (S : zHs) (v : Nat) : zHs := (S.1, v, S.2.2)
abbrev sHs_st (S : zHs) (v : Nat → zTr) : zHs := (S.1, S.2.1, v)
abbrev zSu : Type := (zTr) × (zTr) × (zDd) × (zPd) × (zHs) × (Nat → zTr) × (Nat → Int32)
abbrev gSu_tr (S : zSu) : zTr := S.1
abbrev gSu_tl (S : zSu) : zTr := S.2.1
abbrev gSu_dd (S : zSu) : zDd := S.2.2.1
abbrev gSu_pd (S : zSu) : zPd := S.2.2.2.1
abbrev gSu_hs (S : zSu) : zHs := S.2.2.2.2.1
abbrev gSu_sl (S : zSu) : Nat → zTr := S.2.2.2.2.2.1
abbrev gSu_sv (S : zSu) : Nat → Int32 := S.2.2.2.2.2.2
abbrev sSu_tr (S : zSu) (v : zTr) : zSu := (v, S.2)
abbrev sSu_tl (S : zSu) (v : zTr) : zSu := (S.1, v, S.2.2)
abbrev sSu_dd (S : zSu) (v : zDd) : zSu := (S.1, S.2.1, v, S.2.2.2)
abbrev sSu_pd (S : zSu) (v : zPd) : zSu := (S.1, S.2.1, S.2.2.1, v, S.2.2.2.2)
abbrev sSu_hs (S : zSu) (v : zHs) : zSu := (S.1, S.2.1, S.2.2.1, S.2.2.2.1, v, S.2.2.2.2.2)
abbrev sSu_sl (S : zSu) (v : Nat → zTr) : zSu := (S.1, S.2.1, S.2.2.1, S.2.2.2.1, S.2.2.2.2.1, v, S.2.2.2.2.2.2)
abbrev sSu_sv (S : zSu) (v : Nat → Int32) : zSu := (S.1, S.2.1, S.2.2.1, S.2.2.2.1, S.2.2.2.2.1, S.2.2.2.2.2.1, v)
abbrev zMs : Type := (Nat → Int64) × (Nat → Int64) × (Nat) × (Nat) × (Nat → Int64) × (Nat → Int32) × (Nat → Int64) × (Nat → Int64) × (Nat → Int32) × (Nat) × (Nat) × (Bool) × (Nat) × (Nat → Int32) × (Nat → Int32)
abbrev gMs_at (S : zMs) : Nat → Int64 := S.1
abbrev gMs_past (S : zMs) : Nat → Int64 := S.2.1
abbrev gMs_pf (S : zMs) : Nat := S.2.2.1
abbrev gMs_pm (S : zMs) : Nat := S.2.2.2.1
abbrev gMs_sl (S : zMs) : Nat → Int64 := S.2.2.2.2.1
abbrev gMs_sv (S : zMs) : Nat → Int32 := S.2.2.2.2.2.1
abbrev gMs_as (S : zMs) : Nat → Int64 := S.2.2.2.2.2.2.1
abbrev gMs_sh (S : zMs) : Nat → Int64 := S.2.2.2.2.2.2.2.1
abbrev gMs_pd (S : zMs) : Nat → Int32 := S.2.2.2.2.2.2.2.2.1
abbrev gMs_pdm (S : zMs) : Nat := S.2.2.2.2.2.2.2.2.2.1
abbrev gMs_sp (S : zMs) : Nat := S.2.2.2.2.2.2.2.2.2.2.1
abbrev gMs_wr (S : zMs) : Bool := S.2.2.2.2.2.2.2.2.2.2.2.1
abbrev gMs_od (S : zMs) : Nat := S.2.2.2.2.2.2.2.2.2.2.2.2.1
abbrev gMs_so (S : zMs) : Nat → Int32 := S.2.2.2.2.2.2.2.2.2.2.2.2.2.1
abbrev gMs_nu (S : zMs) : Nat → Int32 := S.2.2.2.2.2.2.2.2.2.2.2.2.2.2
abbrev sMs_at (S : zMs) (v : Nat → Int64) : zMs := (v, S.2)
abbrev sMs_past (S : zMs) (v : Nat → Int64) : zMs := (S.1, v, S.2.2)
abbrev sMs_pf (S : zMs) (v : Nat) : zMs := (S.1, S.2.1, v, S.2.2.2)
abbrev sMs_pm (S : zMs) (v : Nat) : zMs := (S.1, S.2.1, S.2.2.1, v, S.2.2.2.2)
abbrev sMs_sl (S : zMs) (v : Nat → Int64) : zMs := (S.1, S.2.1, S.2.2.1, S.2.2.2.1, v, S.2.2.2.2.2)
abbrev sMs_sv (S : zMs) (v : Nat → Int32) : zMs := (S.1, S.2.1, S.2.2.1, S.2.2.2.1, S.2.2.2.2.1, v, S.2.2.2.2.2.2)
abbrev sMs_as (S : zMs) (v : Nat → Int64) : zMs := (S.1, S.2.1, S.2.2.1, S.2.2.2.1, S.2.2.2.2.1, S.2.2.2.2.2.1, v, S.2.2.2.2.2.2.2)
abbrev sMs_sh (S : zMs) (v : Nat → Int64) : zMs := (S.1, S.2.1, S.2.2.1, S.2.2.2.1, S.2.2.2.2.1, S.2.2.2.2.2.1, S.2.2.2.2.2.2.1, v, S.2.2.2.2.2.2.2.2)
abbrev sMs_pd (S : zMs) (v : Nat → Int32) : zMs := (S.1, S.2.1, S.2.2.1, S.2.2.2.1, S.2.2.2.2.1, S.2.2.2.2.2.1, S.2.2.2.2.2.2.1, S.2.2.2.2.2.2.2.1, v, S.2.2.2.2.2.2.2.2.2)
abbrev sMs_pdm (S : zMs) (v : Nat) : zMs := (S.1, S.2.1, S.2.2.1, S.2.2.2.1, S.2.2.2.2.1, S.2.2.2.2.2.1, S.2.2.2.2.2.2.1, S.2.2.2.2.2.2.2.1, S.2.2.2.2.2.2.2.2.1, v, S.2.2.2.2.2.2.2.2.2.2)
abbrev sMs_sp (S : zMs) (v : Nat) : zMs := (S.1, S.2.1, S.2.2.1, S.2.2.2.1, S.2.2.2.2.1, S.2.2.2.2.2.1, S.2.2.2.2.2.2.1, S.2.2.2.2.2.2.2.1, S.2.2.2.2.2.2.2.2.1, S.2.2.2.2.2.2.2.2.2.1, v, S.2.2.2.2.2.2.2.2.2.2.2)
abbrev sMs_wr (S : zMs) (v : Bool) : zMs := (S.1, S.2.1, S.2.2.1, S.2.2.2.1, S.2.2.2.2.1, S.2.2.2.2.2.1, S.2.2.2.2.2.2.1, S.2.2.2.2.2.2.2.1, S.2.2.2.2.2.2.2.2.1, S.2.2.2.2.2.2.2.2.2.1, S.2.2.2.2.2.2.2.2.2.2.1, v, S.2.2.2.2.2.2.2.2.2.2.2.2)
abbrev sMs_od (S : zMs) (v : Nat) : zMs := (S.1, S.2.1, S.2.2.1, S.2.2.2.1, S.2.2.2.2.1, S.2.2.2.2.2.1, S.2.2.2.2.2.2.1, S.2.2.2.2.2.2.2.1, S.2.2.2.2.2.2.2.2.1, S.2.2.2.2.2.2.2.2.2.1, S.2.2.2.2.2.2.2.2.2.2.1, S.2.2.2.2.2.2.2.2.2.2.2.1, v, S.2.2.2.2.2.2.2.2.2.2.2.2.2)
abbrev sMs_so (S : zMs) (v : Nat → Int32) : zMs := (S.1, S.2.1, S.2.2.1, S.2.2.2.1, S.2.2.2.2.1, S.2.2.2.2.2.1, S.2.2.2.2.2.2.1, S.2.2.2.2.2.2.2.1, S.2.2.2.2.2.2.2.2.1, S.2.2.2.2.2.2.2.2.2.1, S.2.2.2.2.2.2.2.2.2.2.1, S.2.2.2.2.2.2.2.2.2.2.2.1, S.2.2.2.2.2.2.2.2.2.2.2.2.1, v, S.2.2.2.2.2.2.2.2.2.2.2.2.2.2)
abbrev sMs_nu (S : zMs) (v : Nat → Int32) : zMs := (S.1, S.2.1, S.2.2.1, S.2.2.2.1, S.2.2.2.2.1, S.2.2.2.2.2.1, S.2.2.2.2.2.2.1, S.2.2.2.2.2.2.2.1, S.2.2.2.2.2.2.2.2.1, S.2.2.2.2.2.2.2.2.2.1, S.2.2.2.2.2.2.2.2.2.2.1, S.2.2.2.2.2.2.2.2.2.2.2.1, S.2.2.2.2.2.2.2.2.2.2.2.2.1, S.2.2.2.2.2.2.2.2.2.2.2.2.2.1, v)
abbrev vHd (x : zHd) : List Value := [.long (gHd_old x), .long (gHd_new x), .long (gHd_bought x), .long (gHd_paid x), .long (gHd_inc x), .long (gHd_eve x), .long (gHd_lots x)]
abbrev WH (h : Nat) (x : zHd) : va_W := [(h, .inr (2, vHd x))]
abbrev WL (a : Nat) (x : zLd) : va_W := [(a, .inr (3, [.int (zB (gLd_ended x)), .long (gLd_price x), .long (gLd_made x), .long (gLd_left x), .long (gLd_still x), .long (gLd_back x), .int (gLd_sold x), .int (gLd_swung x)]))]
abbrev WO (cy : Nat → ClassId) (a0 a1 a2 a3 : Nat) (x : zOd) : va_W := [(a0, .inr (4, [.int (nI (gOd_n x)), .ref a1, .ref a2, .ref a3])), (a1, .inl (cy 1, 20, .inl (gOd_ho x))), (a2, .inl (cy 1, 20, .inl (gOd_sz x))), (a3, .inl (cy 1, 20, .inl (gOd_dy x)))]
abbrev WT (cy : Nat → ClassId) (a : Nat → Nat) (t : zTr) : va_W := [(a 0, .inr (6, [.long (gTr_cash t), .long (gTr_pool t), .long (gTr_even t), .int (gTr_lots t), .int (gTr_quote t), .int (gTr_day t), .ref (a 1), .ref (a 2), .ref (a 3), .ref (a 7), .ref (a 11)])), (a 1, .inl (cy 1, 5, .inl (gTr_st t))), (a 2, .inl (cy 4, 6, .inr (.inr (.inr (.inr (fun k => some (a (12 + k)))))))),
  (a 3, .inr (4, [.int (nI (gOd_n (gTr_bu t))), .ref (a 4), .ref (a 5), .ref (a 6)])), (a 4, .inl (cy 1, 20, .inl (gOd_ho (gTr_bu t)))), (a 5, .inl (cy 1, 20, .inl (gOd_sz (gTr_bu t)))), (a 6, .inl (cy 1, 20, .inl (gOd_dy (gTr_bu t)))),
  (a 7, .inr (4, [.int (nI (gOd_n (gTr_le t))), .ref (a 8), .ref (a 9), .ref (a 10)])), (a 8, .inl (cy 1, 20, .inl (gOd_ho (gTr_le t)))), (a 9, .inl (cy 1, 20, .inl (gOd_sz (gTr_le t)))), (a 10, .inl (cy 1, 20, .inl (gOd_dy (gTr_le t)))),
  (a 11, .inr (3, [.int (zB (gLd_ended (gTr_la t))), .long (gLd_price (gTr_la t)), .long (gLd_made (gTr_la t)), .long (gLd_left (gTr_la t)), .long (gLd_still (gTr_la t)), .long (gLd_back (gTr_la t)), .int (gLd_sold (gTr_la t)), .int (gLd_swung (gTr_la t))])),
  (a 12, .inr (2, vHd (gTr_hd t 0))), (a 13, .inr (2, vHd (gTr_hd t 1))), (a 14, .inr (2, vHd (gTr_hd t 2))), (a 15, .inr (2, vHd (gTr_hd t 3))), (a 16, .inr (2, vHd (gTr_hd t 4))), (a 17, .inr (2, vHd (gTr_hd t 5)))]
abbrev WD (cy : Nat → ClassId) (d0 d1 : Nat) (x : zDd) : va_W := [(d0, .inr (0, [.long (gDd_middle x), .long (gDd_ui x), .long (gDd_price x), .long (gDd_wanted x), .long (gDd_allowed x), .int (gDd_swung x), .ref d1])), (d1, .inl (cy 2, 20, .inr (.inl (gDd_sh x))))]
abbrev WP (cy : Nat → ClassId) (p0 p1 : Nat) (x : zPd) : va_W := [(p0, .inr (5, [.int (nI (gPd_n x)), .ref p1, .int (nI (gPd_at x)), .int (gPd_ho x), .int (gPd_nu x), .int (gPd_hr x), .int (gPd_kd x)])), (p1, .inl (cy 0, 80, .inl (gPd_sg x)))]
abbrev WM (cy : Nat → ClassId) (m : Nat → Nat) (S : zMs) : va_W := [(m 0, .inr (8, [.ref (m 1), .ref (m 2), .int (nI (gMs_pf S)), .int (nI (gMs_pm S)), .ref (m 3), .ref (m 4), .ref (m 5), .ref (m 6), .ref (m 7), .int (nI (gMs_pdm S)), .int (nI (gMs_sp S)), .int (zB (gMs_wr S)), .int (nI (gMs_od S)), .ref (m 8), .ref (m 9)])),
  (m 1, .inl (cy 2, 183, .inr (.inl (gMs_at S)))), (m 2, .inl (cy 2, 1098, .inr (.inl (gMs_past S)))), (m 3, .inl (cy 2, 366, .inr (.inl (gMs_sl S)))), (m 4, .inl (cy 3, 2, .inl (gMs_sv S))), (m 5, .inl (cy 2, 183, .inr (.inl (gMs_as S)))), (m 6, .inl (cy 2, 20, .inr (.inl (gMs_sh S)))), (m 7, .inl (cy 1, 80, .inl (gMs_pd S))), (m 8, .inl (cy 1, 42, .inl (gMs_so S))), (m 9, .inl (cy 1, 126, .inl (gMs_nu S)))]
theorem WT_h {cy : Nat → ClassId} {a : Nat → Nat} {t : zTr} {h : Nat} (hh : h < 6) : (WT cy a t)[12 + h]? = some (a (12 + h), .inr (2, vHd (gTr_hd t h))) := by
  rcases (show h = 0 ∨ h = 1 ∨ h = 2 ∨ h = 3 ∨ h = 4 ∨ h = 5 by omega) with rfl | rfl | rfl | rfl | rfl | rfl <;> rfl
/-- a function at one place told anew -/
def zup {α : Type} (f : Nat → α) (k : Nat) (v : α) : Nat → α := fun j => if j = k then v else f j
theorem WT_set {cy : Nat → ClassId} {a : Nat → Nat} {t : zTr} {h : Nat} (x : zHd) (hh : h < 6) : (WT cy a t).set (12 + h) (a (12 + h), .inr (2, vHd x)) = WT cy a (sTr_hd t (zup (gTr_hd t) h x)) := by
  rcases (show h = 0 ∨ h = 1 ∨ h = 2 ∨ h = 3 ∨ h = 4 ∨ h = 5 by omega) with rfl | rfl | rfl | rfl | rfl | rfl <;> rfl
theorem zup_s {α : Type} (f : Nat → α) (k : Nat) (v : α) : zup f k v k = v := by simp [zup]
theorem zup_n {α : Type} (f : Nat → α) {k j : Nat} (v : α) (h : j ≠ k) : zup f k v j = f j := by simp [zup, h]
theorem zup_2 {α : Type} (f : Nat → α) (k : Nat) (v w : α) : zup (zup f k v) k w = zup f k w := by funext j; by_cases h : j = k <;> simp [zup, h]
theorem WT_hz {cy : Nat → ClassId} {a : Nat → Nat} {t : zTr} {f : Nat → zHd} {x : zHd} {h : Nat} (hh : h < 6) : (WT cy a (sTr_hd t (zup f h x)))[12 + h]? = some (a (12 + h), .inr (2, vHd x)) := by
  rw [WT_h hh]
  show some (a (12 + h), Sum.inr (2, vHd (zup f h x h))) = _
  rw [zup_s]
theorem WT_setz {cy : Nat → ClassId} {a : Nat → Nat} {t : zTr} {f : Nat → zHd} {x : zHd} {h : Nat} (y : zHd) (hh : h < 6) : (WT cy a (sTr_hd t (zup f h x))).set (12 + h) (a (12 + h), .inr (2, vHd y)) = WT cy a (sTr_hd t (zup f h y)) := by
  rw [WT_set y hh]
  show WT cy a (sTr_hd t (zup (zup f h x) h y)) = _
  rw [zup_2]
/-- the sum of the first n -/
def zsum (f : Nat → Int64) : Nat → Int64
  | 0 => 0
  | n + 1 => zsum f n + f n

