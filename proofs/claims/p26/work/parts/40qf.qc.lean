-- how a rule was done; counts
section Cn
variable {Ps : Nat → Nat → Int} {m k tn : Nat} {w : Int} {x : Fw}
end Cn
theorem wtb_368 : Cond.fieldLink "ToneLines" 118 "ToneLines$Derivation" "size" "I" ∈ TB := rtb_116
