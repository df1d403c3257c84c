theorem zz_probe : lw_tbl.length = 1193 := by decide +kernel
