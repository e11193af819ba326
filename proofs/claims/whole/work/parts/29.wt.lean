def tx_36 : String := "no such exhibit"
theorem wt_36 : pWT 0 36 tx_36 = true := by decide +kernel
def tx_41 : String := "the exhibit isn't for so many"
theorem wt_41 : pWT 0 41 tx_41 = true := by decide +kernel
def tx_43 : String := "no such instruction"
theorem wt_43 : pWT 0 43 tx_43 = true := by decide +kernel
def tx_45 : String := "no such kind"
theorem wt_45 : pWT 0 45 tx_45 = true := by decide +kernel
def tx_51 : String := "no such register, word, number or instruction"
theorem wt_51 : pWT 0 51 tx_51 = true := by decide +kernel
def tx_86 : String := "it isn't idle"
theorem wt_86 : pWT 1 86 tx_86 = true := by decide +kernel
def tx_95 : String := "it isn't trying or leaving"
theorem wt_95 : pWT 1 95 tx_95 = true := by decide +kernel
def tx_101 : String := "it isn't inside"
theorem wt_101 : pWT 1 101 tx_101 = true := by decide +kernel
def tx_105 : String := "no such word"
theorem wt_105 : pWT 2 105 tx_105 = true := by decide +kernel
def tx_115 : String := "no such register"
theorem wt_115 : pWT 2 115 tx_115 = true := by decide +kernel
def tx_120 : String := "there is nothing such to tell"
theorem wt_120 : pWT 0 120 tx_120 = true := by decide +kernel
def tx_135 : String := "times is not 0 .. 2000"
theorem wt_135 : pWT 0 135 tx_135 = true := by decide +kernel
def tx_145 : String := "attempts is not 1 .. 3"
theorem wt_145 : pWT 0 145 tx_145 = true := by decide +kernel
def tx_157 : String := "no such move"
theorem wt_157 : pWT 2 157 tx_157 = true := by decide +kernel
def tx_167 : String := "no such process"
theorem wt_167 : pWT 0 167 tx_167 = true := by decide +kernel
theorem gs_169 : pIn (.fieldLink "LockMuseum" 169 "LockMuseum" "OPERAND_LIMITS" "[I") = true := by decide +kernel
theorem gs_172 : pIn (.fieldLink "LockMuseum" 172 "LockMuseum" "TICKETS_METHOD" "[I") = true := by decide +kernel
theorem gs_175 : pIn (.fieldLink "LockMuseum" 175 "LockMuseum" "TWO_METHOD" "[I") = true := by decide +kernel
theorem gs_178 : pIn (.fieldLink "LockMuseum" 178 "LockMuseum" "BAKERY_METHOD" "[I") = true := by decide +kernel
theorem gs_181 : pIn (.fieldLink "LockMuseum" 181 "LockMuseum" "LEVELS_METHOD" "[I") = true := by decide +kernel
theorem gs_184 : pIn (.fieldLink "LockMuseum" 184 "LockMuseum" "SWAP_METHOD" "[I") = true := by decide +kernel
