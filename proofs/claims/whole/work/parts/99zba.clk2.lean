theorem cw_f_X6_52 : Cond.fieldLink RX6 52 RX10 "roads" "I" ∈ tblG := tblG_at 180 (by decide +kernel) (by decide +kernel)

theorem cw_f_X6_57 : Cond.fieldLink RX6 57 RX10 "goers" "I" ∈ tblG := tblG_at 185 (by decide +kernel) (by decide +kernel)
