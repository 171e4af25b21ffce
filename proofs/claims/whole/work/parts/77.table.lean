theorem tab_0 : tabT 1 80 = true := by decide +kernel
theorem tab_1 : tabT 81 33 = true := by decide +kernel
theorem tab_2 : tabT 114 25 = true := by decide +kernel
theorem tab_3 : tabT 139 22 = true := by decide +kernel
