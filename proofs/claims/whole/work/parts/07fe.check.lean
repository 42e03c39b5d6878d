-- 95e: the law, row by row
theorem ok_229_7 : chkM 229 ct_229_7 = true := by decide +kernel
theorem ok_229_8 : chkM 229 ct_229_8 = true := by decide +kernel
theorem ok_229_9 : chkM 229 ct_229_9 = true := by decide +kernel
theorem ok_229_10 : chkM 229 ct_229_10 = true := by decide +kernel
theorem ok_229_11 : chkM 229 ct_229_11 = true := by decide +kernel
theorem ok_229_12 : chkM 229 ct_229_12 = true := by decide +kernel
theorem ok_229_13 : chkM 229 ct_229_13 = true := by decide +kernel
