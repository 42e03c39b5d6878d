-- 95d: the law, row by row
theorem ok_229_0 : chkM 229 ct_229_0 = true := by decide +kernel
theorem ok_229_1 : chkM 229 ct_229_1 = true := by decide +kernel
theorem ok_229_2 : chkM 229 ct_229_2 = true := by decide +kernel
theorem ok_229_3 : chkM 229 ct_229_3 = true := by decide +kernel
theorem ok_229_4 : chkM 229 ct_229_4 = true := by decide +kernel
theorem ok_229_5 : chkM 229 ct_229_5 = true := by decide +kernel
theorem ok_229_6 : chkM 229 ct_229_6 = true := by decide +kernel
