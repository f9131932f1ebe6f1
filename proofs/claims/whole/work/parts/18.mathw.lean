theorem sw_mth_max : sw_mth Lib.Math.max.name Lib.Math.max.code 2 := ⟨sw_wu3 (i := 61) (by decide +kernel) rfl, sw_wu1 (i := 13) (by decide +kernel) rfl, sw_wu3 (i := 62) (by decide +kernel) rfl⟩
theorem sw_mth_min : sw_mth Lib.Math.min.name Lib.Math.min.code 2 := ⟨sw_wu3 (i := 58) (by decide +kernel) rfl, sw_wu1 (i := 13) (by decide +kernel) rfl, sw_wu3 (i := 59) (by decide +kernel) rfl⟩
theorem sw_mth_abs : sw_mth Lib.Math.abs.name Lib.Math.abs.code 1 := ⟨sw_wu3 (i := 228) (by decide +kernel) rfl, sw_wu1 (i := 13) (by decide +kernel) rfl, sw_wu3 (i := 229) (by decide +kernel) rfl⟩
theorem sw_wm_RX3_50 : Cond.methodLink RX3 50 Lib.Math.max.name ∈ sw_wd := sw_wu3 (i := 68) (by decide +kernel) rfl
theorem sw_wm_RX4_130 : Cond.methodLink RX4 130 Lib.Math.min.name ∈ sw_wd := sw_wu3 (i := 209) (by decide +kernel) rfl
theorem sw_wm_RX4_136 : Cond.methodLink RX4 136 Lib.Math.max.name ∈ sw_wd := sw_wu3 (i := 190) (by decide +kernel) rfl
theorem sw_wm_RX7_72 : Cond.methodLink RX7 72 Lib.Math.min.name ∈ sw_wd := sw_wu3 (i := 102) (by decide +kernel) rfl
theorem sw_wm_RX8_311 : Cond.methodLink RX8 311 Lib.Math.min.name ∈ sw_wd := sw_wu3 (i := 57) (by decide +kernel) rfl
theorem sw_wm_RX8_370 : Cond.methodLink RX8 370 Lib.Math.max.name ∈ sw_wd := sw_wu3 (i := 60) (by decide +kernel) rfl
theorem sw_wm_RX8_373 : Cond.methodLink RX8 373 Lib.Math.abs.name ∈ sw_wd := sw_wu3 (i := 227) (by decide +kernel) rfl
