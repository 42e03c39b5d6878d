-- 95f: the law, row by row
theorem ok_229_14 : chkM 229 ct_229_14 = true := by decide +kernel
theorem ok_229_15 : chkM 229 ct_229_15 = true := by decide +kernel
theorem ok_229_16 : chkM 229 ct_229_16 = true := by decide +kernel
theorem ok_229_17 : chkM 229 ct_229_17 = true := by decide +kernel
theorem ok_229_18 : chkM 229 ct_229_18 = true := by decide +kernel
theorem ok_229_19 : chkM 229 ct_229_19 = true := by decide +kernel
theorem ok_229_20 : chkM 229 ct_229_20 = true := by decide +kernel
