theorem wtb_301 : Cond.fieldLink "ToneLines$Word" 24 "ToneLines$Word" "kinds" "[I" ∈ TB := tb_7
