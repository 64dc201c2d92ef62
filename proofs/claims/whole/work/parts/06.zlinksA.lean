theorem fl_X8_9 : z_FL RX8 9 8 0 false := ⟨⟨by decide, by decide, rfl, Or.inl (z_gd 65 (by decide +kernel) rfl)⟩, rfl⟩
theorem pf_X8_9 : z_pf RX8 true 9 8 0 := Or.inr ⟨rfl, rfl, rfl, (z_gd 65 (by decide +kernel) rfl)⟩
theorem fl_X8_15 : z_FL RX8 15 8 1 true := ⟨⟨by decide, by decide, rfl, Or.inl (z_gd 66 (by decide +kernel) rfl)⟩, rfl⟩
theorem pf_X8_15 (ini : Bool) : z_pf RX8 ini 15 8 1 := Or.inl rfl
theorem fl_X7_15 : z_FL RX7 15 7 0 true := ⟨⟨by decide, by decide, rfl, Or.inl (z_gd 79 (by decide +kernel) rfl)⟩, rfl⟩
theorem pf_X7_15 (ini : Bool) : z_pf RX7 ini 15 7 0 := Or.inl rfl
theorem fl_X7_19 : z_FL RX7 19 7 1 true := ⟨⟨by decide, by decide, rfl, Or.inl (z_gd 80 (by decide +kernel) rfl)⟩, rfl⟩
theorem pf_X7_19 (ini : Bool) : z_pf RX7 ini 19 7 1 := Or.inl rfl
theorem fl_X7_22 : z_FL RX7 22 7 2 true := ⟨⟨by decide, by decide, rfl, Or.inl (z_gd 81 (by decide +kernel) rfl)⟩, rfl⟩
theorem pf_X7_22 (ini : Bool) : z_pf RX7 ini 22 7 2 := Or.inl rfl
theorem fl_X7_25 : z_FL RX7 25 7 3 true := ⟨⟨by decide, by decide, rfl, Or.inl (z_gd 83 (by decide +kernel) rfl)⟩, rfl⟩
theorem pf_X7_25 (ini : Bool) : z_pf RX7 ini 25 7 3 := Or.inl rfl
theorem fl_X7_28 : z_FL RX7 28 7 4 true := ⟨⟨by decide, by decide, rfl, Or.inl (z_gd 85 (by decide +kernel) rfl)⟩, rfl⟩
theorem pf_X7_28 (ini : Bool) : z_pf RX7 ini 28 7 4 := Or.inl rfl
theorem fl_X7_31 : z_FL RX7 31 7 5 true := ⟨⟨by decide, by decide, rfl, Or.inl (z_gd 86 (by decide +kernel) rfl)⟩, rfl⟩
theorem pf_X7_31 (ini : Bool) : z_pf RX7 ini 31 7 5 := Or.inl rfl
theorem fl_X7_9 : z_FL RX7 9 7 6 false := ⟨⟨by decide, by decide, rfl, Or.inl (z_gd 88 (by decide +kernel) rfl)⟩, rfl⟩
theorem pf_X7_9 : z_pf RX7 true 9 7 6 := Or.inr ⟨rfl, rfl, rfl, (z_gd 88 (by decide +kernel) rfl)⟩
theorem fl_X0_11 : z_FL RX0 11 0 0 false := ⟨⟨by decide, by decide, rfl, Or.inl (z_gd 113 (by decide +kernel) rfl)⟩, rfl⟩
theorem pf_X0_11 : z_pf RX0 true 11 0 0 := Or.inr ⟨rfl, rfl, rfl, (z_gd 113 (by decide +kernel) rfl)⟩
theorem fl_X0_26 : z_FL RX0 26 0 1 true := ⟨⟨by decide, by decide, rfl, Or.inl (z_gd 114 (by decide +kernel) rfl)⟩, rfl⟩
theorem pf_X0_26 (ini : Bool) : z_pf RX0 ini 26 0 1 := Or.inl rfl
theorem fl_X0_18 : z_FL RX0 18 0 2 true := ⟨⟨by decide, by decide, rfl, Or.inl (z_gd 116 (by decide +kernel) rfl)⟩, rfl⟩
theorem pf_X0_18 (ini : Bool) : z_pf RX0 ini 18 0 2 := Or.inl rfl
theorem fl_X6_11 : z_FL RX6 11 6 0 false := ⟨⟨by decide, by decide, rfl, Or.inl (z_gd 132 (by decide +kernel) rfl)⟩, rfl⟩
theorem pf_X6_11 : z_pf RX6 true 11 6 0 := Or.inr ⟨rfl, rfl, rfl, (z_gd 132 (by decide +kernel) rfl)⟩
theorem fl_X6_17 : z_FL RX6 17 6 1 false := ⟨⟨by decide, by decide, rfl, Or.inl (z_gd 133 (by decide +kernel) rfl)⟩, rfl⟩
theorem pf_X6_17 : z_pf RX6 true 17 6 1 := Or.inr ⟨rfl, rfl, rfl, (z_gd 133 (by decide +kernel) rfl)⟩
theorem fl_X9_24 : z_FL RX9 24 9 0 true := ⟨⟨by decide, by decide, rfl, Or.inl (z_gd 146 (by decide +kernel) rfl)⟩, rfl⟩
theorem pf_X9_24 (ini : Bool) : z_pf RX9 ini 24 9 0 := Or.inl rfl
theorem fl_X9_9 : z_FL RX9 9 9 1 false := ⟨⟨by decide, by decide, rfl, Or.inl (z_gd 147 (by decide +kernel) rfl)⟩, rfl⟩
theorem pf_X9_9 : z_pf RX9 true 9 9 1 := Or.inr ⟨rfl, rfl, rfl, (z_gd 147 (by decide +kernel) rfl)⟩
theorem fl_X9_15 : z_FL RX9 15 9 2 false := ⟨⟨by decide, by decide, rfl, Or.inl (z_gd 148 (by decide +kernel) rfl)⟩, rfl⟩
theorem pf_X9_15 : z_pf RX9 true 15 9 2 := Or.inr ⟨rfl, rfl, rfl, (z_gd 148 (by decide +kernel) rfl)⟩
theorem fl_X3_12 : z_FL RX3 12 3 0 false := ⟨⟨by decide, by decide, rfl, Or.inl (z_gd 164 (by decide +kernel) rfl)⟩, rfl⟩
theorem pf_X3_12 : z_pf RX3 true 12 3 0 := Or.inr ⟨rfl, rfl, rfl, (z_gd 164 (by decide +kernel) rfl)⟩
theorem fl_X3_18 : z_FL RX3 18 3 1 false := ⟨⟨by decide, by decide, rfl, Or.inl (z_gd 165 (by decide +kernel) rfl)⟩, rfl⟩
theorem pf_X3_18 : z_pf RX3 true 18 3 1 := Or.inr ⟨rfl, rfl, rfl, (z_gd 165 (by decide +kernel) rfl)⟩
theorem fl_X3_21 : z_FL RX3 21 3 2 false := ⟨⟨by decide, by decide, rfl, Or.inl (z_gd 166 (by decide +kernel) rfl)⟩, rfl⟩
theorem pf_X3_21 : z_pf RX3 true 21 3 2 := Or.inr ⟨rfl, rfl, rfl, (z_gd 166 (by decide +kernel) rfl)⟩
theorem fl_X3_25 : z_FL RX3 25 3 3 false := ⟨⟨by decide, by decide, rfl, Or.inl (z_gd 167 (by decide +kernel) rfl)⟩, rfl⟩
theorem pf_X3_25 : z_pf RX3 true 25 3 3 := Or.inr ⟨rfl, rfl, rfl, (z_gd 167 (by decide +kernel) rfl)⟩
theorem fl_X3_28 : z_FL RX3 28 3 4 true := ⟨⟨by decide, by decide, rfl, Or.inl (z_gd 168 (by decide +kernel) rfl)⟩, rfl⟩
theorem pf_X3_28 (ini : Bool) : z_pf RX3 ini 28 3 4 := Or.inl rfl
theorem fl_X3_32 : z_FL RX3 32 3 5 true := ⟨⟨by decide, by decide, rfl, Or.inl (z_gd 169 (by decide +kernel) rfl)⟩, rfl⟩
theorem pf_X3_32 (ini : Bool) : z_pf RX3 ini 32 3 5 := Or.inl rfl
theorem fl_X3_39 : z_FL RX3 39 3 6 true := ⟨⟨by decide, by decide, rfl, Or.inl (z_gd 170 (by decide +kernel) rfl)⟩, rfl⟩
theorem pf_X3_39 (ini : Bool) : z_pf RX3 ini 39 3 6 := Or.inl rfl
theorem fl_X3_70 : z_FL RX3 70 3 7 true := ⟨⟨by decide, by decide, rfl, Or.inl (z_gd 172 (by decide +kernel) rfl)⟩, rfl⟩
theorem pf_X3_70 (ini : Bool) : z_pf RX3 ini 70 3 7 := Or.inl rfl
theorem fl_X3_73 : z_FL RX3 73 3 8 true := ⟨⟨by decide, by decide, rfl, Or.inl (z_gd 174 (by decide +kernel) rfl)⟩, rfl⟩
theorem pf_X3_73 (ini : Bool) : z_pf RX3 ini 73 3 8 := Or.inl rfl
theorem fl_X3_76 : z_FL RX3 76 3 9 true := ⟨⟨by decide, by decide, rfl, Or.inl (z_gd 176 (by decide +kernel) rfl)⟩, rfl⟩
theorem pf_X3_76 (ini : Bool) : z_pf RX3 ini 76 3 9 := Or.inl rfl
theorem fl_X3_79 : z_FL RX3 79 3 10 true := ⟨⟨by decide, by decide, rfl, Or.inl (z_gd 178 (by decide +kernel) rfl)⟩, rfl⟩
theorem pf_X3_79 (ini : Bool) : z_pf RX3 ini 79 3 10 := Or.inl rfl
theorem fl_X10_9 : z_FL RX10 9 10 0 false := ⟨⟨by decide, by decide, rfl, Or.inl (z_gd 209 (by decide +kernel) rfl)⟩, rfl⟩
theorem pf_X10_9 (ini : Bool) : z_pf RX10 ini 9 10 0 := Or.inl rfl
theorem fl_X5_11 : z_FL RX5 11 5 0 false := ⟨⟨by decide, by decide, rfl, Or.inl (z_gd 219 (by decide +kernel) rfl)⟩, rfl⟩
theorem pf_X5_11 (ini : Bool) : z_pf RX5 ini 11 5 0 := Or.inl rfl
theorem fl_X5_15 : z_FL RX5 15 5 1 false := ⟨⟨by decide, by decide, rfl, Or.inl (z_gd 220 (by decide +kernel) rfl)⟩, rfl⟩
theorem pf_X5_15 (ini : Bool) : z_pf RX5 ini 15 5 1 := Or.inl rfl
theorem fl_X5_18 : z_FL RX5 18 5 2 true := ⟨⟨by decide, by decide, rfl, Or.inl (z_gd 221 (by decide +kernel) rfl)⟩, rfl⟩
theorem pf_X5_18 (ini : Bool) : z_pf RX5 ini 18 5 2 := Or.inl rfl
theorem fl_X2_9 : z_FL RX2 9 2 0 false := ⟨⟨by decide, by decide, rfl, Or.inl (z_gd 235 (by decide +kernel) rfl)⟩, rfl⟩
theorem pf_X2_9 : z_pf RX2 true 9 2 0 := Or.inr ⟨rfl, rfl, rfl, (z_gd 235 (by decide +kernel) rfl)⟩
theorem fl_X2_15 : z_FL RX2 15 2 1 false := ⟨⟨by decide, by decide, rfl, Or.inl (z_gd 236 (by decide +kernel) rfl)⟩, rfl⟩
theorem pf_X2_15 : z_pf RX2 true 15 2 1 := Or.inr ⟨rfl, rfl, rfl, (z_gd 236 (by decide +kernel) rfl)⟩
theorem fl_X2_24 : z_FL RX2 24 2 2 true := ⟨⟨by decide, by decide, rfl, Or.inl (z_gd 237 (by decide +kernel) rfl)⟩, rfl⟩
theorem pf_X2_24 (ini : Bool) : z_pf RX2 ini 24 2 2 := Or.inl rfl
theorem fl_X2_27 : z_FL RX2 27 2 3 true := ⟨⟨by decide, by decide, rfl, Or.inl (z_gd 238 (by decide +kernel) rfl)⟩, rfl⟩
theorem pf_X2_27 (ini : Bool) : z_pf RX2 ini 27 2 3 := Or.inl rfl
theorem fl_X1_43 : z_FL RX1 43 1 0 true := ⟨⟨by decide, by decide, rfl, Or.inl (z_gd 270 (by decide +kernel) rfl)⟩, rfl⟩
theorem pf_X1_43 (ini : Bool) : z_pf RX1 ini 43 1 0 := Or.inl rfl
theorem fl_X1_47 : z_FL RX1 47 1 1 true := ⟨⟨by decide, by decide, rfl, Or.inl (z_gd 274 (by decide +kernel) rfl)⟩, rfl⟩
theorem pf_X1_47 (ini : Bool) : z_pf RX1 ini 47 1 1 := Or.inl rfl
theorem fl_X1_50 : z_FL RX1 50 1 2 true := ⟨⟨by decide, by decide, rfl, Or.inl (z_gd 276 (by decide +kernel) rfl)⟩, rfl⟩
theorem pf_X1_50 (ini : Bool) : z_pf RX1 ini 50 1 2 := Or.inl rfl
theorem fl_X1_53 : z_FL RX1 53 1 3 true := ⟨⟨by decide, by decide, rfl, Or.inl (z_gd 279 (by decide +kernel) rfl)⟩, rfl⟩
theorem pf_X1_53 (ini : Bool) : z_pf RX1 ini 53 1 3 := Or.inl rfl
theorem fl_X1_9 : z_FL RX1 9 1 4 false := ⟨⟨by decide, by decide, rfl, Or.inl (z_gd 282 (by decide +kernel) rfl)⟩, rfl⟩
theorem pf_X1_9 : z_pf RX1 true 9 1 4 := Or.inr ⟨rfl, rfl, rfl, (z_gd 282 (by decide +kernel) rfl)⟩
theorem fl_X1_15 : z_FL RX1 15 1 5 false := ⟨⟨by decide, by decide, rfl, Or.inl (z_gd 283 (by decide +kernel) rfl)⟩, rfl⟩
theorem pf_X1_15 : z_pf RX1 true 15 1 5 := Or.inr ⟨rfl, rfl, rfl, (z_gd 283 (by decide +kernel) rfl)⟩
theorem fl_X1_18 : z_FL RX1 18 1 6 false := ⟨⟨by decide, by decide, rfl, Or.inl (z_gd 284 (by decide +kernel) rfl)⟩, rfl⟩
theorem pf_X1_18 : z_pf RX1 true 18 1 6 := Or.inr ⟨rfl, rfl, rfl, (z_gd 284 (by decide +kernel) rfl)⟩
theorem fl_X1_21 : z_FL RX1 21 1 7 false := ⟨⟨by decide, by decide, rfl, Or.inl (z_gd 285 (by decide +kernel) rfl)⟩, rfl⟩
theorem pf_X1_21 : z_pf RX1 true 21 1 7 := Or.inr ⟨rfl, rfl, rfl, (z_gd 285 (by decide +kernel) rfl)⟩
theorem fl_X1_24 : z_FL RX1 24 1 8 false := ⟨⟨by decide, by decide, rfl, Or.inl (z_gd 286 (by decide +kernel) rfl)⟩, rfl⟩
theorem pf_X1_24 : z_pf RX1 true 24 1 8 := Or.inr ⟨rfl, rfl, rfl, (z_gd 286 (by decide +kernel) rfl)⟩
theorem fl_X11_10 : z_FL RX11 10 11 0 false := ⟨⟨by decide, by decide, rfl, Or.inl (z_gd 306 (by decide +kernel) rfl)⟩, rfl⟩
theorem pf_X11_10 : z_pf RX11 true 10 11 0 := Or.inr ⟨rfl, rfl, rfl, (z_gd 306 (by decide +kernel) rfl)⟩
theorem fl_X11_19 : z_FL RX11 19 11 1 false := ⟨⟨by decide, by decide, rfl, Or.inl (z_gd 307 (by decide +kernel) rfl)⟩, rfl⟩
theorem pf_X11_19 : z_pf RX11 true 19 11 1 := Or.inr ⟨rfl, rfl, rfl, (z_gd 307 (by decide +kernel) rfl)⟩
theorem fl_X11_26 : z_FL RX11 26 11 2 false := ⟨⟨by decide, by decide, rfl, Or.inl (z_gd 308 (by decide +kernel) rfl)⟩, rfl⟩
theorem pf_X11_26 : z_pf RX11 true 26 11 2 := Or.inr ⟨rfl, rfl, rfl, (z_gd 308 (by decide +kernel) rfl)⟩
theorem fl_X11_33 : z_FL RX11 33 11 3 false := ⟨⟨by decide, by decide, rfl, Or.inl (z_gd 309 (by decide +kernel) rfl)⟩, rfl⟩
theorem pf_X11_33 : z_pf RX11 true 33 11 3 := Or.inr ⟨rfl, rfl, rfl, (z_gd 309 (by decide +kernel) rfl)⟩
theorem fl_X11_40 : z_FL RX11 40 11 4 false := ⟨⟨by decide, by decide, rfl, Or.inl (z_gd 310 (by decide +kernel) rfl)⟩, rfl⟩
theorem pf_X11_40 : z_pf RX11 true 40 11 4 := Or.inr ⟨rfl, rfl, rfl, (z_gd 310 (by decide +kernel) rfl)⟩
theorem fl_X11_47 : z_FL RX11 47 11 5 false := ⟨⟨by decide, by decide, rfl, Or.inl (z_gd 311 (by decide +kernel) rfl)⟩, rfl⟩
theorem pf_X11_47 : z_pf RX11 true 47 11 5 := Or.inr ⟨rfl, rfl, rfl, (z_gd 311 (by decide +kernel) rfl)⟩
theorem fl_X11_54 : z_FL RX11 54 11 6 false := ⟨⟨by decide, by decide, rfl, Or.inl (z_gd 312 (by decide +kernel) rfl)⟩, rfl⟩
theorem pf_X11_54 : z_pf RX11 true 54 11 6 := Or.inr ⟨rfl, rfl, rfl, (z_gd 312 (by decide +kernel) rfl)⟩
theorem fl_X11_61 : z_FL RX11 61 11 7 false := ⟨⟨by decide, by decide, rfl, Or.inl (z_gd 313 (by decide +kernel) rfl)⟩, rfl⟩
theorem pf_X11_61 : z_pf RX11 true 61 11 7 := Or.inr ⟨rfl, rfl, rfl, (z_gd 313 (by decide +kernel) rfl)⟩
theorem fl_X11_68 : z_FL RX11 68 11 8 false := ⟨⟨by decide, by decide, rfl, Or.inl (z_gd 314 (by decide +kernel) rfl)⟩, rfl⟩
theorem pf_X11_68 : z_pf RX11 true 68 11 8 := Or.inr ⟨rfl, rfl, rfl, (z_gd 314 (by decide +kernel) rfl)⟩
theorem fl_X11_72 : z_FL RX11 72 11 9 false := ⟨⟨by decide, by decide, rfl, Or.inl (z_gd 315 (by decide +kernel) rfl)⟩, rfl⟩
theorem pf_X11_72 : z_pf RX11 true 72 11 9 := Or.inr ⟨rfl, rfl, rfl, (z_gd 315 (by decide +kernel) rfl)⟩
theorem fl_X11_79 : z_FL RX11 79 11 10 false := ⟨⟨by decide, by decide, rfl, Or.inl (z_gd 316 (by decide +kernel) rfl)⟩, rfl⟩
theorem pf_X11_79 (ini : Bool) : z_pf RX11 ini 79 11 10 := Or.inl rfl
theorem fl_X11_83 : z_FL RX11 83 11 11 false := ⟨⟨by decide, by decide, rfl, Or.inl (z_gd 317 (by decide +kernel) rfl)⟩, rfl⟩
theorem pf_X11_83 (ini : Bool) : z_pf RX11 ini 83 11 11 := Or.inl rfl
theorem fl_X12_104 : z_FL RX12 104 12 0 true := ⟨⟨by decide, by decide, rfl, Or.inl (z_gd 782 (by decide +kernel) rfl)⟩, rfl⟩
theorem pf_X12_104 (ini : Bool) : z_pf RX12 ini 104 12 0 := Or.inl rfl
theorem fl_X12_7 : z_FL RX12 7 12 1 false := ⟨⟨by decide, by decide, rfl, Or.inl (z_gd 783 (by decide +kernel) rfl)⟩, rfl⟩
theorem pf_X12_7 : z_pf RX12 true 7 12 1 := Or.inr ⟨rfl, rfl, rfl, (z_gd 783 (by decide +kernel) rfl)⟩
theorem fl_X12_116 : z_FL RX12 116 12 2 true := ⟨⟨by decide, by decide, rfl, Or.inl (z_gd 784 (by decide +kernel) rfl)⟩, rfl⟩
theorem pf_X12_116 (ini : Bool) : z_pf RX12 ini 116 12 2 := Or.inl rfl
theorem fl_X12_119 : z_FL RX12 119 12 3 true := ⟨⟨by decide, by decide, rfl, Or.inl (z_gd 785 (by decide +kernel) rfl)⟩, rfl⟩
theorem pf_X12_119 (ini : Bool) : z_pf RX12 ini 119 12 3 := Or.inl rfl
theorem fl_X12_13 : z_FL RX12 13 12 4 true := ⟨⟨by decide, by decide, rfl, Or.inl (z_gd 786 (by decide +kernel) rfl)⟩, rfl⟩
theorem pf_X12_13 (ini : Bool) : z_pf RX12 ini 13 12 4 := Or.inl rfl
theorem fl_X12_159 : z_FL RX12 159 12 5 true := ⟨⟨by decide, by decide, rfl, Or.inl (z_gd 787 (by decide +kernel) rfl)⟩, rfl⟩
theorem pf_X12_159 (ini : Bool) : z_pf RX12 ini 159 12 5 := Or.inl rfl
theorem fl_X12_162 : z_FL RX12 162 12 6 true := ⟨⟨by decide, by decide, rfl, Or.inl (z_gd 788 (by decide +kernel) rfl)⟩, rfl⟩
theorem pf_X12_162 (ini : Bool) : z_pf RX12 ini 162 12 6 := Or.inl rfl
theorem fl_X12_17 : z_FL RX12 17 12 7 false := ⟨⟨by decide, by decide, rfl, Or.inl (z_gd 789 (by decide +kernel) rfl)⟩, rfl⟩
theorem pf_X12_17 : z_pf RX12 true 17 12 7 := Or.inr ⟨rfl, rfl, rfl, (z_gd 789 (by decide +kernel) rfl)⟩
theorem fl_X12_111 : z_FL RX12 111 12 8 true := ⟨⟨by decide, by decide, rfl, Or.inl (z_gd 790 (by decide +kernel) rfl)⟩, rfl⟩
theorem pf_X12_111 (ini : Bool) : z_pf RX12 ini 111 12 8 := Or.inl rfl
theorem fl_X12_20 : z_FL RX12 20 12 9 false := ⟨⟨by decide, by decide, rfl, Or.inl (z_gd 791 (by decide +kernel) rfl)⟩, rfl⟩
theorem pf_X12_20 : z_pf RX12 true 20 12 9 := Or.inr ⟨rfl, rfl, rfl, (z_gd 791 (by decide +kernel) rfl)⟩
theorem fl_X12_23 : z_FL RX12 23 12 10 false := ⟨⟨by decide, by decide, rfl, Or.inl (z_gd 792 (by decide +kernel) rfl)⟩, rfl⟩
theorem pf_X12_23 : z_pf RX12 true 23 12 10 := Or.inr ⟨rfl, rfl, rfl, (z_gd 792 (by decide +kernel) rfl)⟩
theorem fl_X12_26 : z_FL RX12 26 12 11 false := ⟨⟨by decide, by decide, rfl, Or.inl (z_gd 793 (by decide +kernel) rfl)⟩, rfl⟩
theorem pf_X12_26 : z_pf RX12 true 26 12 11 := Or.inr ⟨rfl, rfl, rfl, (z_gd 793 (by decide +kernel) rfl)⟩
theorem fl_X12_122 : z_FL RX12 122 12 12 true := ⟨⟨by decide, by decide, rfl, Or.inl (z_gd 794 (by decide +kernel) rfl)⟩, rfl⟩
theorem pf_X12_122 (ini : Bool) : z_pf RX12 ini 122 12 12 := Or.inl rfl
theorem fl_X12_149 : z_FL RX12 149 12 13 true := ⟨⟨by decide, by decide, rfl, Or.inl (z_gd 795 (by decide +kernel) rfl)⟩, rfl⟩
theorem pf_X12_149 (ini : Bool) : z_pf RX12 ini 149 12 13 := Or.inl rfl
theorem fl_X12_133 : z_FL RX12 133 12 14 true := ⟨⟨by decide, by decide, rfl, Or.inl (z_gd 796 (by decide +kernel) rfl)⟩, rfl⟩
theorem pf_X12_133 (ini : Bool) : z_pf RX12 ini 133 12 14 := Or.inl rfl
theorem fl_X12_136 : z_FL RX12 136 12 15 true := ⟨⟨by decide, by decide, rfl, Or.inl (z_gd 797 (by decide +kernel) rfl)⟩, rfl⟩
theorem pf_X12_136 (ini : Bool) : z_pf RX12 ini 136 12 15 := Or.inl rfl
theorem fl_X12_29 : z_FL RX12 29 12 16 false := ⟨⟨by decide, by decide, rfl, Or.inl (z_gd 798 (by decide +kernel) rfl)⟩, rfl⟩
theorem pf_X12_29 : z_pf RX12 true 29 12 16 := Or.inr ⟨rfl, rfl, rfl, (z_gd 798 (by decide +kernel) rfl)⟩
theorem fl_X12_32 : z_FL RX12 32 12 17 false := ⟨⟨by decide, by decide, rfl, Or.inl (z_gd 799 (by decide +kernel) rfl)⟩, rfl⟩
theorem pf_X12_32 : z_pf RX12 true 32 12 17 := Or.inr ⟨rfl, rfl, rfl, (z_gd 799 (by decide +kernel) rfl)⟩
theorem fl_X12_35 : z_FL RX12 35 12 18 false := ⟨⟨by decide, by decide, rfl, Or.inl (z_gd 800 (by decide +kernel) rfl)⟩, rfl⟩
theorem pf_X12_35 : z_pf RX12 true 35 12 18 := Or.inr ⟨rfl, rfl, rfl, (z_gd 800 (by decide +kernel) rfl)⟩
theorem fl_X12_38 : z_FL RX12 38 12 19 false := ⟨⟨by decide, by decide, rfl, Or.inl (z_gd 801 (by decide +kernel) rfl)⟩, rfl⟩
theorem pf_X12_38 : z_pf RX12 true 38 12 19 := Or.inr ⟨rfl, rfl, rfl, (z_gd 801 (by decide +kernel) rfl)⟩
theorem fl_X12_41 : z_FL RX12 41 12 20 false := ⟨⟨by decide, by decide, rfl, Or.inl (z_gd 802 (by decide +kernel) rfl)⟩, rfl⟩
theorem pf_X12_41 : z_pf RX12 true 41 12 20 := Or.inr ⟨rfl, rfl, rfl, (z_gd 802 (by decide +kernel) rfl)⟩
theorem fl_X12_165 : z_FL RX12 165 12 21 true := ⟨⟨by decide, by decide, rfl, Or.inl (z_gd 803 (by decide +kernel) rfl)⟩, rfl⟩
theorem pf_X12_165 (ini : Bool) : z_pf RX12 ini 165 12 21 := Or.inl rfl
theorem fl_X12_168 : z_FL RX12 168 12 22 true := ⟨⟨by decide, by decide, rfl, Or.inl (z_gd 804 (by decide +kernel) rfl)⟩, rfl⟩
theorem pf_X12_168 (ini : Bool) : z_pf RX12 ini 168 12 22 := Or.inl rfl
theorem fl_X12_171 : z_FL RX12 171 12 23 true := ⟨⟨by decide, by decide, rfl, Or.inl (z_gd 805 (by decide +kernel) rfl)⟩, rfl⟩
theorem pf_X12_171 (ini : Bool) : z_pf RX12 ini 171 12 23 := Or.inl rfl
theorem fl_X12_174 : z_FL RX12 174 12 24 true := ⟨⟨by decide, by decide, rfl, Or.inl (z_gd 806 (by decide +kernel) rfl)⟩, rfl⟩
theorem pf_X12_174 (ini : Bool) : z_pf RX12 ini 174 12 24 := Or.inl rfl
theorem fl_X12_44 : z_FL RX12 44 12 25 false := ⟨⟨by decide, by decide, rfl, Or.inl (z_gd 807 (by decide +kernel) rfl)⟩, rfl⟩
theorem pf_X12_44 : z_pf RX12 true 44 12 25 := Or.inr ⟨rfl, rfl, rfl, (z_gd 807 (by decide +kernel) rfl)⟩
theorem fl_X12_47 : z_FL RX12 47 12 26 false := ⟨⟨by decide, by decide, rfl, Or.inl (z_gd 808 (by decide +kernel) rfl)⟩, rfl⟩
theorem pf_X12_47 : z_pf RX12 true 47 12 26 := Or.inr ⟨rfl, rfl, rfl, (z_gd 808 (by decide +kernel) rfl)⟩
theorem fl_X12_177 : z_FL RX12 177 12 27 true := ⟨⟨by decide, by decide, rfl, Or.inl (z_gd 809 (by decide +kernel) rfl)⟩, rfl⟩
theorem pf_X12_177 (ini : Bool) : z_pf RX12 ini 177 12 27 := Or.inl rfl
theorem fl_X12_50 : z_FL RX12 50 12 28 false := ⟨⟨by decide, by decide, rfl, Or.inl (z_gd 810 (by decide +kernel) rfl)⟩, rfl⟩
theorem pf_X12_50 : z_pf RX12 true 50 12 28 := Or.inr ⟨rfl, rfl, rfl, (z_gd 810 (by decide +kernel) rfl)⟩
theorem fl_X12_53 : z_FL RX12 53 12 29 false := ⟨⟨by decide, by decide, rfl, Or.inl (z_gd 811 (by decide +kernel) rfl)⟩, rfl⟩
theorem pf_X12_53 : z_pf RX12 true 53 12 29 := Or.inr ⟨rfl, rfl, rfl, (z_gd 811 (by decide +kernel) rfl)⟩
theorem fl_X12_57 : z_FL RX12 57 12 30 false := ⟨⟨by decide, by decide, rfl, Or.inl (z_gd 812 (by decide +kernel) rfl)⟩, rfl⟩
theorem pf_X12_57 : z_pf RX12 true 57 12 30 := Or.inr ⟨rfl, rfl, rfl, (z_gd 812 (by decide +kernel) rfl)⟩
theorem fl_X12_60 : z_FL RX12 60 12 31 false := ⟨⟨by decide, by decide, rfl, Or.inl (z_gd 813 (by decide +kernel) rfl)⟩, rfl⟩
theorem pf_X12_60 : z_pf RX12 true 60 12 31 := Or.inr ⟨rfl, rfl, rfl, (z_gd 813 (by decide +kernel) rfl)⟩
theorem fl_X12_223 : z_FL RX12 223 12 32 true := ⟨⟨by decide, by decide, rfl, Or.inl (z_gd 814 (by decide +kernel) rfl)⟩, rfl⟩
theorem pf_X12_223 (ini : Bool) : z_pf RX12 ini 223 12 32 := Or.inl rfl
theorem fl_X12_226 : z_FL RX12 226 12 33 true := ⟨⟨by decide, by decide, rfl, Or.inl (z_gd 815 (by decide +kernel) rfl)⟩, rfl⟩
theorem pf_X12_226 (ini : Bool) : z_pf RX12 ini 226 12 33 := Or.inl rfl
theorem fl_X12_229 : z_FL RX12 229 12 34 true := ⟨⟨by decide, by decide, rfl, Or.inl (z_gd 816 (by decide +kernel) rfl)⟩, rfl⟩
theorem pf_X12_229 (ini : Bool) : z_pf RX12 ini 229 12 34 := Or.inl rfl
theorem fl_X12_232 : z_FL RX12 232 12 35 true := ⟨⟨by decide, by decide, rfl, Or.inl (z_gd 817 (by decide +kernel) rfl)⟩, rfl⟩
theorem pf_X12_232 (ini : Bool) : z_pf RX12 ini 232 12 35 := Or.inl rfl
theorem fl_X12_63 : z_FL RX12 63 12 36 false := ⟨⟨by decide, by decide, rfl, Or.inl (z_gd 818 (by decide +kernel) rfl)⟩, rfl⟩
theorem pf_X12_63 : z_pf RX12 true 63 12 36 := Or.inr ⟨rfl, rfl, rfl, (z_gd 818 (by decide +kernel) rfl)⟩
theorem fl_X12_66 : z_FL RX12 66 12 37 false := ⟨⟨by decide, by decide, rfl, Or.inl (z_gd 819 (by decide +kernel) rfl)⟩, rfl⟩
theorem pf_X12_66 : z_pf RX12 true 66 12 37 := Or.inr ⟨rfl, rfl, rfl, (z_gd 819 (by decide +kernel) rfl)⟩
theorem fl_X12_69 : z_FL RX12 69 12 38 false := ⟨⟨by decide, by decide, rfl, Or.inl (z_gd 820 (by decide +kernel) rfl)⟩, rfl⟩
theorem pf_X12_69 : z_pf RX12 true 69 12 38 := Or.inr ⟨rfl, rfl, rfl, (z_gd 820 (by decide +kernel) rfl)⟩
theorem fl_X12_72 : z_FL RX12 72 12 39 false := ⟨⟨by decide, by decide, rfl, Or.inl (z_gd 821 (by decide +kernel) rfl)⟩, rfl⟩
theorem pf_X12_72 : z_pf RX12 true 72 12 39 := Or.inr ⟨rfl, rfl, rfl, (z_gd 821 (by decide +kernel) rfl)⟩
theorem fl_X12_75 : z_FL RX12 75 12 40 false := ⟨⟨by decide, by decide, rfl, Or.inl (z_gd 822 (by decide +kernel) rfl)⟩, rfl⟩
theorem pf_X12_75 : z_pf RX12 true 75 12 40 := Or.inr ⟨rfl, rfl, rfl, (z_gd 822 (by decide +kernel) rfl)⟩
theorem fl_X12_78 : z_FL RX12 78 12 41 false := ⟨⟨by decide, by decide, rfl, Or.inl (z_gd 823 (by decide +kernel) rfl)⟩, rfl⟩
theorem pf_X12_78 : z_pf RX12 true 78 12 41 := Or.inr ⟨rfl, rfl, rfl, (z_gd 823 (by decide +kernel) rfl)⟩
theorem fl_X12_81 : z_FL RX12 81 12 42 false := ⟨⟨by decide, by decide, rfl, Or.inl (z_gd 824 (by decide +kernel) rfl)⟩, rfl⟩
theorem pf_X12_81 : z_pf RX12 true 81 12 42 := Or.inr ⟨rfl, rfl, rfl, (z_gd 824 (by decide +kernel) rfl)⟩
theorem fl_X12_84 : z_FL RX12 84 12 43 false := ⟨⟨by decide, by decide, rfl, Or.inl (z_gd 825 (by decide +kernel) rfl)⟩, rfl⟩
theorem pf_X12_84 : z_pf RX12 true 84 12 43 := Or.inr ⟨rfl, rfl, rfl, (z_gd 825 (by decide +kernel) rfl)⟩
theorem fl_X12_87 : z_FL RX12 87 12 44 false := ⟨⟨by decide, by decide, rfl, Or.inl (z_gd 826 (by decide +kernel) rfl)⟩, rfl⟩
theorem pf_X12_87 : z_pf RX12 true 87 12 44 := Or.inr ⟨rfl, rfl, rfl, (z_gd 826 (by decide +kernel) rfl)⟩
theorem fl_X12_90 : z_FL RX12 90 12 45 false := ⟨⟨by decide, by decide, rfl, Or.inl (z_gd 827 (by decide +kernel) rfl)⟩, rfl⟩
theorem pf_X12_90 : z_pf RX12 true 90 12 45 := Or.inr ⟨rfl, rfl, rfl, (z_gd 827 (by decide +kernel) rfl)⟩
theorem fl_X12_93 : z_FL RX12 93 12 46 false := ⟨⟨by decide, by decide, rfl, Or.inl (z_gd 828 (by decide +kernel) rfl)⟩, rfl⟩
theorem pf_X12_93 : z_pf RX12 true 93 12 46 := Or.inr ⟨rfl, rfl, rfl, (z_gd 828 (by decide +kernel) rfl)⟩
theorem fl_X12_96 : z_FL RX12 96 12 47 false := ⟨⟨by decide, by decide, rfl, Or.inl (z_gd 829 (by decide +kernel) rfl)⟩, rfl⟩
theorem pf_X12_96 : z_pf RX12 true 96 12 47 := Or.inr ⟨rfl, rfl, rfl, (z_gd 829 (by decide +kernel) rfl)⟩
theorem fl_X12_100 : z_FL RX12 100 12 48 false := ⟨⟨by decide, by decide, rfl, Or.inl (z_gd 830 (by decide +kernel) rfl)⟩, rfl⟩
theorem pf_X12_100 : z_pf RX12 true 100 12 48 := Or.inr ⟨rfl, rfl, rfl, (z_gd 830 (by decide +kernel) rfl)⟩
theorem fl_X11_127 : z_FL RX11 127 7 2 true := ⟨⟨by decide, by decide, rfl, Or.inr ⟨"StepsShared", (z_ns 82 (by decide +kernel) rfl)⟩⟩, rfl⟩
theorem pf_X11_127 (ini : Bool) : z_pf RX11 ini 127 7 2 := Or.inl rfl
theorem fl_X11_130 : z_FL RX11 130 7 3 true := ⟨⟨by decide, by decide, rfl, Or.inr ⟨"StepsShared", (z_ns 84 (by decide +kernel) rfl)⟩⟩, rfl⟩
theorem pf_X11_130 (ini : Bool) : z_pf RX11 ini 130 7 3 := Or.inl rfl
theorem fl_X11_140 : z_FL RX11 140 7 5 true := ⟨⟨by decide, by decide, rfl, Or.inr ⟨"StepsShared", (z_ns 87 (by decide +kernel) rfl)⟩⟩, rfl⟩
theorem pf_X11_140 (ini : Bool) : z_pf RX11 ini 140 7 5 := Or.inl rfl
theorem fl_X11_137 : z_FL RX11 137 0 1 true := ⟨⟨by decide, by decide, rfl, Or.inr ⟨"StepsShared", (z_ns 115 (by decide +kernel) rfl)⟩⟩, rfl⟩
theorem pf_X11_137 (ini : Bool) : z_pf RX11 ini 137 0 1 := Or.inl rfl
theorem fl_X11_236 : z_FL RX11 236 3 6 true := ⟨⟨by decide, by decide, rfl, Or.inr ⟨"StepsShared", (z_ns 171 (by decide +kernel) rfl)⟩⟩, rfl⟩
theorem pf_X11_236 (ini : Bool) : z_pf RX11 ini 236 3 6 := Or.inl rfl
theorem fl_X11_240 : z_FL RX11 240 3 7 true := ⟨⟨by decide, by decide, rfl, Or.inr ⟨"StepsShared", (z_ns 173 (by decide +kernel) rfl)⟩⟩, rfl⟩
theorem pf_X11_240 (ini : Bool) : z_pf RX11 ini 240 3 7 := Or.inl rfl
theorem fl_X11_243 : z_FL RX11 243 3 8 true := ⟨⟨by decide, by decide, rfl, Or.inr ⟨"StepsShared", (z_ns 175 (by decide +kernel) rfl)⟩⟩, rfl⟩
theorem pf_X11_243 (ini : Bool) : z_pf RX11 ini 243 3 8 := Or.inl rfl
theorem fl_X11_244 : z_FL RX11 244 3 9 true := ⟨⟨by decide, by decide, rfl, Or.inr ⟨"StepsShared", (z_ns 177 (by decide +kernel) rfl)⟩⟩, rfl⟩
theorem pf_X11_244 (ini : Bool) : z_pf RX11 ini 244 3 9 := Or.inl rfl
theorem fl_X11_247 : z_FL RX11 247 3 10 true := ⟨⟨by decide, by decide, rfl, Or.inr ⟨"StepsShared", (z_ns 179 (by decide +kernel) rfl)⟩⟩, rfl⟩
theorem pf_X11_247 (ini : Bool) : z_pf RX11 ini 247 3 10 := Or.inl rfl
theorem fl_X11_287 : z_FL RX11 287 2 3 true := ⟨⟨by decide, by decide, rfl, Or.inr ⟨"StepsShared", (z_ns 239 (by decide +kernel) rfl)⟩⟩, rfl⟩
theorem pf_X11_287 (ini : Bool) : z_pf RX11 ini 287 2 3 := Or.inl rfl
theorem fl_X9_29 : z_FL RX9 29 1 0 true := ⟨⟨by decide, by decide, rfl, Or.inr ⟨"StepsShared", (z_ns 271 (by decide +kernel) rfl)⟩⟩, rfl⟩
theorem pf_X9_29 (ini : Bool) : z_pf RX9 ini 29 1 0 := Or.inl rfl
theorem fl_X5_42 : z_FL RX5 42 1 0 true := ⟨⟨by decide, by decide, rfl, Or.inr ⟨"StepsShared", (z_ns 272 (by decide +kernel) rfl)⟩⟩, rfl⟩
theorem pf_X5_42 (ini : Bool) : z_pf RX5 ini 42 1 0 := Or.inl rfl
theorem fl_X11_118 : z_FL RX11 118 1 0 true := ⟨⟨by decide, by decide, rfl, Or.inr ⟨"StepsShared", (z_ns 273 (by decide +kernel) rfl)⟩⟩, rfl⟩
theorem pf_X11_118 (ini : Bool) : z_pf RX11 ini 118 1 0 := Or.inl rfl
theorem fl_X11_106 : z_FL RX11 106 1 1 true := ⟨⟨by decide, by decide, rfl, Or.inr ⟨"StepsShared", (z_ns 275 (by decide +kernel) rfl)⟩⟩, rfl⟩
theorem pf_X11_106 (ini : Bool) : z_pf RX11 ini 106 1 1 := Or.inl rfl
theorem fl_X11_124 : z_FL RX11 124 1 2 true := ⟨⟨by decide, by decide, rfl, Or.inr ⟨"StepsShared", (z_ns 277 (by decide +kernel) rfl)⟩⟩, rfl⟩
theorem pf_X11_124 (ini : Bool) : z_pf RX11 ini 124 1 2 := Or.inl rfl
theorem fl_X2_18 : z_FL RX2 18 1 3 true := ⟨⟨by decide, by decide, rfl, Or.inr ⟨"StepsShared", (z_ns 278 (by decide +kernel) rfl)⟩⟩, rfl⟩
theorem pf_X2_18 (ini : Bool) : z_pf RX2 ini 18 1 3 := Or.inl rfl
theorem fl_X3_43 : z_FL RX3 43 1 3 true := ⟨⟨by decide, by decide, rfl, Or.inr ⟨"StepsShared", (z_ns 280 (by decide +kernel) rfl)⟩⟩, rfl⟩
theorem pf_X3_43 (ini : Bool) : z_pf RX3 ini 43 1 3 := Or.inl rfl
theorem fl_X11_121 : z_FL RX11 121 1 3 true := ⟨⟨by decide, by decide, rfl, Or.inr ⟨"StepsShared", (z_ns 281 (by decide +kernel) rfl)⟩⟩, rfl⟩
theorem pf_X11_121 (ini : Bool) : z_pf RX11 ini 121 1 3 := Or.inl rfl
set_option maxRecDepth 20000 in
theorem yb_X11_init : Cond.initialized yX11_init.cls ∈ z_good ∧ Cond.code yX11_init cX11_init 1 none ∈ z_good ∧ (yX11_init.cls ≠ "java/lang/invoke/MethodHandle" ∧ yX11_init.cls ≠ "java/lang/invoke/VarHandle" ∧ (parseMethodDescriptor yX11_init.desc).map (fun d => d.parameters.length) = some 0) := ⟨(z_gd 36 (by decide +kernel) rfl), (z_gd 55 rfl rfl), by decide +kernel, by decide +kernel, by decide +kernel⟩
theorem yi_X11_init : Cond.instanceMethod yX11_init ∈ z_good := (z_gd 54 (by decide +kernel) rfl)
theorem mi_L_9 : z_MI RL 9 yX11_init cX11_init 1 0 := ⟨⟨Or.inl (z_gd 53 (by decide +kernel) rfl), yb_X11_init⟩, yi_X11_init, rfl, by decide⟩
theorem oi_X11_1 : Cond.methodLink RX11 1 Lib.objectInit ∈ z_good := (z_gd 56 (by decide +kernel) rfl)
theorem oi_X8_3 : Cond.methodLink RX8 3 Lib.objectInit ∈ z_good := (z_gd 64 (by decide +kernel) rfl)
theorem oi_X7_3 : Cond.methodLink RX7 3 Lib.objectInit ∈ z_good := (z_gd 78 (by decide +kernel) rfl)
theorem oi_X0_3 : Cond.methodLink RX0 3 Lib.objectInit ∈ z_good := (z_gd 109 (by decide +kernel) rfl)
theorem oi_X6_3 : Cond.methodLink RX6 3 Lib.objectInit ∈ z_good := (z_gd 129 (by decide +kernel) rfl)
theorem oi_X9_3 : Cond.methodLink RX9 3 Lib.objectInit ∈ z_good := (z_gd 145 (by decide +kernel) rfl)
theorem oi_X3_3 : Cond.methodLink RX3 3 Lib.objectInit ∈ z_good := (z_gd 161 (by decide +kernel) rfl)
theorem oi_X10_3 : Cond.methodLink RX10 3 Lib.objectInit ∈ z_good := (z_gd 208 (by decide +kernel) rfl)
theorem oi_X5_3 : Cond.methodLink RX5 3 Lib.objectInit ∈ z_good := (z_gd 218 (by decide +kernel) rfl)
theorem oi_X2_3 : Cond.methodLink RX2 3 Lib.objectInit ∈ z_good := (z_gd 234 (by decide +kernel) rfl)
theorem oi_X1_3 : Cond.methodLink RX1 3 Lib.objectInit ∈ z_good := (z_gd 254 (by decide +kernel) rfl)
set_option maxRecDepth 20000 in
theorem yb_X1_begin : Cond.initialized yX1_begin.cls ∈ z_good ∧ Cond.code yX1_begin cX1_begin 4 none ∈ z_good ∧ (yX1_begin.cls ≠ "java/lang/invoke/MethodHandle" ∧ yX1_begin.cls ≠ "java/lang/invoke/VarHandle" ∧ (parseMethodDescriptor yX1_begin.desc).map (fun d => d.parameters.length) = some 2) := ⟨(z_gd 46 (by decide +kernel) rfl), (z_gd 258 rfl rfl), by decide +kernel, by decide +kernel, by decide +kernel⟩
theorem yi_X1_begin : Cond.instanceMethod yX1_begin ∈ z_good := (z_gd 257 (by decide +kernel) rfl)
theorem yv_X1_begin : Cond.selects yX1_begin.cls yX1_begin yX1_begin ∈ z_good := (z_gd 0 (by decide +kernel) rfl)
theorem mv_X1_27 : z_MV RX1 27 1 yX1_begin cX1_begin 4 none 2 := ⟨⟨Or.inl (z_gd 255 (by decide +kernel) rfl), yb_X1_begin⟩, yi_X1_begin, yv_X1_begin, by decide, rfl, by decide⟩
set_option maxRecDepth 20000 in
theorem mx_X1_34 : z_MM RX1 34 Lib.Math.min.name Lib.Math.min.code 2 := ⟨(z_gd 259 (by decide +kernel) rfl), (z_gd 260 (by decide +kernel) rfl), (z_gd 47 (by decide +kernel) rfl), (z_gd 261 (by decide +kernel) rfl)⟩
set_option maxRecDepth 20000 in
theorem mx_X1_40 : z_MM RX1 40 Lib.Math.max.name Lib.Math.max.code 2 := ⟨(z_gd 262 (by decide +kernel) rfl), (z_gd 263 (by decide +kernel) rfl), (z_gd 47 (by decide +kernel) rfl), (z_gd 264 (by decide +kernel) rfl)⟩
set_option maxRecDepth 20000 in
theorem yb_X1_measure : Cond.initialized yX1_measure.cls ∈ z_good ∧ Cond.code yX1_measure cX1_measure 5 none ∈ z_good ∧ (yX1_measure.cls ≠ "java/lang/invoke/MethodHandle" ∧ yX1_measure.cls ≠ "java/lang/invoke/VarHandle" ∧ (parseMethodDescriptor yX1_measure.desc).map (fun d => d.parameters.length) = some 0) := ⟨(z_gd 46 (by decide +kernel) rfl), (z_gd 268 rfl rfl), by decide +kernel, by decide +kernel, by decide +kernel⟩
theorem yi_X1_measure : Cond.instanceMethod yX1_measure ∈ z_good := (z_gd 267 (by decide +kernel) rfl)
theorem yv_X1_measure : Cond.selects yX1_measure.cls yX1_measure yX1_measure ∈ z_good := (z_gd 1 (by decide +kernel) rfl)
theorem mv_X1_31 : z_MV RX1 31 1 yX1_measure cX1_measure 5 none 0 := ⟨⟨Or.inl (z_gd 265 (by decide +kernel) rfl), yb_X1_measure⟩, yi_X1_measure, yv_X1_measure, by decide, rfl, by decide⟩
set_option maxRecDepth 20000 in
theorem yb_X11_write : Cond.initialized yX11_write.cls ∈ z_good ∧ Cond.code yX11_write cX11_write 4 (some .int) ∈ z_good ∧ (yX11_write.cls ≠ "java/lang/invoke/MethodHandle" ∧ yX11_write.cls ≠ "java/lang/invoke/VarHandle" ∧ (parseMethodDescriptor yX11_write.desc).map (fun d => d.parameters.length) = some 2) := ⟨(z_gd 36 (by decide +kernel) rfl), (z_gd 346 rfl rfl), by decide +kernel, by decide +kernel, by decide +kernel⟩
theorem yi_X11_write : Cond.instanceMethod yX11_write ∈ z_good := (z_gd 344 (by decide +kernel) rfl)
theorem yv_X11_write : Cond.selects yX11_write.cls yX11_write yX11_write ∈ z_good := (z_gd 345 (by decide +kernel) rfl)
theorem mv_L_15 : z_MV RL 15 11 yX11_write cX11_write 4 (some .int) 2 := ⟨⟨Or.inl (z_gd 343 (by decide +kernel) rfl), yb_X11_write⟩, yi_X11_write, yv_X11_write, by decide, rfl, by decide⟩
set_option maxRecDepth 20000 in
theorem yb_X8_size : Cond.initialized yX8_size.cls ∈ z_good ∧ Cond.code yX8_size cX8_size 1 (some .int) ∈ z_good ∧ (yX8_size.cls ≠ "java/lang/invoke/MethodHandle" ∧ yX8_size.cls ≠ "java/lang/invoke/VarHandle" ∧ (parseMethodDescriptor yX8_size.desc).map (fun d => d.parameters.length) = some 0) := ⟨(z_gd 37 (by decide +kernel) rfl), (z_gd 350 rfl rfl), by decide +kernel, by decide +kernel, by decide +kernel⟩
theorem yi_X8_size : Cond.instanceMethod yX8_size ∈ z_good := (z_gd 348 (by decide +kernel) rfl)
theorem yv_X8_size : Cond.selects yX8_size.cls yX8_size yX8_size ∈ z_good := (z_gd 349 (by decide +kernel) rfl)
theorem mv_X11_86 : z_MV RX11 86 8 yX8_size cX8_size 1 (some .int) 0 := ⟨⟨Or.inl (z_gd 347 (by decide +kernel) rfl), yb_X8_size⟩, yi_X8_size, yv_X8_size, by decide, rfl, by decide⟩
set_option maxRecDepth 20000 in
theorem yb_X8_append : Cond.initialized yX8_append.cls ∈ z_good ∧ Cond.code yX8_append cX8_append 5 none ∈ z_good ∧ (yX8_append.cls ≠ "java/lang/invoke/MethodHandle" ∧ yX8_append.cls ≠ "java/lang/invoke/VarHandle" ∧ (parseMethodDescriptor yX8_append.desc).map (fun d => d.parameters.length) = some 2) := ⟨(z_gd 37 (by decide +kernel) rfl), (z_gd 354 rfl rfl), by decide +kernel, by decide +kernel, by decide +kernel⟩
theorem yi_X8_append : Cond.instanceMethod yX8_append ∈ z_good := (z_gd 352 (by decide +kernel) rfl)
theorem yv_X8_append : Cond.selects yX8_append.cls yX8_append yX8_append ∈ z_good := (z_gd 353 (by decide +kernel) rfl)
theorem mv_X11_90 : z_MV RX11 90 8 yX8_append cX8_append 5 none 2 := ⟨⟨Or.inl (z_gd 351 (by decide +kernel) rfl), yb_X8_append⟩, yi_X8_append, yv_X8_append, by decide, rfl, by decide⟩
set_option maxRecDepth 20000 in
theorem yb_X11_wipe : Cond.initialized yX11_wipe.cls ∈ z_good ∧ Cond.code yX11_wipe cX11_wipe 2 (some .int) ∈ z_good ∧ (yX11_wipe.cls ≠ "java/lang/invoke/MethodHandle" ∧ yX11_wipe.cls ≠ "java/lang/invoke/VarHandle" ∧ (parseMethodDescriptor yX11_wipe.desc).map (fun d => d.parameters.length) = some 0) := ⟨(z_gd 36 (by decide +kernel) rfl), (z_gd 358 rfl rfl), by decide +kernel, by decide +kernel, by decide +kernel⟩
theorem yi_X11_wipe : Cond.instanceMethod yX11_wipe ∈ z_good := (z_gd 356 (by decide +kernel) rfl)
theorem yv_X11_wipe : Cond.selects yX11_wipe.cls yX11_wipe yX11_wipe ∈ z_good := (z_gd 357 (by decide +kernel) rfl)
theorem mv_L_20 : z_MV RL 20 11 yX11_wipe cX11_wipe 2 (some .int) 0 := ⟨⟨Or.inl (z_gd 355 (by decide +kernel) rfl), yb_X11_wipe⟩, yi_X11_wipe, yv_X11_wipe, by decide, rfl, by decide⟩
set_option maxRecDepth 20000 in
theorem yb_X8_empty : Cond.initialized yX8_empty.cls ∈ z_good ∧ Cond.code yX8_empty cX8_empty 1 none ∈ z_good ∧ (yX8_empty.cls ≠ "java/lang/invoke/MethodHandle" ∧ yX8_empty.cls ≠ "java/lang/invoke/VarHandle" ∧ (parseMethodDescriptor yX8_empty.desc).map (fun d => d.parameters.length) = some 0) := ⟨(z_gd 37 (by decide +kernel) rfl), (z_gd 362 rfl rfl), by decide +kernel, by decide +kernel, by decide +kernel⟩
theorem yi_X8_empty : Cond.instanceMethod yX8_empty ∈ z_good := (z_gd 360 (by decide +kernel) rfl)
theorem yv_X8_empty : Cond.selects yX8_empty.cls yX8_empty yX8_empty ∈ z_good := (z_gd 361 (by decide +kernel) rfl)
theorem mv_X11_94 : z_MV RX11 94 8 yX8_empty cX8_empty 1 none 0 := ⟨⟨Or.inl (z_gd 359 (by decide +kernel) rfl), yb_X8_empty⟩, yi_X8_empty, yv_X8_empty, by decide, rfl, by decide⟩
set_option maxRecDepth 20000 in
theorem yb_X11_fault : Cond.initialized yX11_fault.cls ∈ z_good ∧ Cond.code yX11_fault cX11_fault 1 (some .int) ∈ z_good ∧ (yX11_fault.cls ≠ "java/lang/invoke/MethodHandle" ∧ yX11_fault.cls ≠ "java/lang/invoke/VarHandle" ∧ (parseMethodDescriptor yX11_fault.desc).map (fun d => d.parameters.length) = some 0) := ⟨(z_gd 36 (by decide +kernel) rfl), (z_gd 366 rfl rfl), by decide +kernel, by decide +kernel, by decide +kernel⟩
theorem yi_X11_fault : Cond.instanceMethod yX11_fault ∈ z_good := (z_gd 364 (by decide +kernel) rfl)
theorem yv_X11_fault : Cond.selects yX11_fault.cls yX11_fault yX11_fault ∈ z_good := (z_gd 365 (by decide +kernel) rfl)
theorem mv_L_25 : z_MV RL 25 11 yX11_fault cX11_fault 1 (some .int) 0 := ⟨⟨Or.inl (z_gd 363 (by decide +kernel) rfl), yb_X11_fault⟩, yi_X11_fault, yv_X11_fault, by decide, rfl, by decide⟩
set_option maxRecDepth 20000 in
theorem yb_X4_firstFault : Cond.initialized yX4_firstFault.cls ∈ z_good ∧ Cond.code yX4_firstFault cX4_firstFault 8 (some .int) ∈ z_good ∧ (yX4_firstFault.cls ≠ "java/lang/invoke/MethodHandle" ∧ yX4_firstFault.cls ≠ "java/lang/invoke/VarHandle" ∧ (parseMethodDescriptor yX4_firstFault.desc).map (fun d => d.parameters.length) = some 2) := ⟨(z_gd 49 (by decide +kernel) rfl), (z_gd 369 rfl rfl), by decide +kernel, by decide +kernel, by decide +kernel⟩
theorem ys_X4_firstFault : Cond.static yX4_firstFault ∈ z_good := (z_gd 368 (by decide +kernel) rfl)
theorem ms_X11_97 : z_MS RX11 97 yX4_firstFault cX4_firstFault 8 (some .int) 2 := ⟨⟨Or.inl (z_gd 367 (by decide +kernel) rfl), yb_X4_firstFault⟩, ys_X4_firstFault, by decide⟩
theorem mv_X4_9 : z_MV RX4 9 8 yX8_size cX8_size 1 (some .int) 0 := ⟨⟨Or.inl (z_gd 370 (by decide +kernel) rfl), yb_X8_size⟩, yi_X8_size, yv_X8_size, by decide, rfl, by decide⟩
set_option maxRecDepth 20000 in
theorem yb_X4_headFault : Cond.initialized yX4_headFault.cls ∈ z_good ∧ Cond.code yX4_headFault cX4_headFault 2 (some .int) ∈ z_good ∧ (yX4_headFault.cls ≠ "java/lang/invoke/MethodHandle" ∧ yX4_headFault.cls ≠ "java/lang/invoke/VarHandle" ∧ (parseMethodDescriptor yX4_headFault.desc).map (fun d => d.parameters.length) = some 1) := ⟨(z_gd 49 (by decide +kernel) rfl), (z_gd 373 rfl rfl), by decide +kernel, by decide +kernel, by decide +kernel⟩
theorem ys_X4_headFault : Cond.static yX4_headFault ∈ z_good := (z_gd 372 (by decide +kernel) rfl)
theorem ms_X4_15 : z_MS RX4 15 yX4_headFault cX4_headFault 2 (some .int) 1 := ⟨⟨Or.inl (z_gd 371 (by decide +kernel) rfl), yb_X4_headFault⟩, ys_X4_headFault, by decide⟩
set_option maxRecDepth 20000 in
theorem yb_X4_fitsHead : Cond.initialized yX4_fitsHead.cls ∈ z_good ∧ Cond.code yX4_fitsHead cX4_fitsHead 3 (some .boolean) ∈ z_good ∧ (yX4_fitsHead.cls ≠ "java/lang/invoke/MethodHandle" ∧ yX4_fitsHead.cls ≠ "java/lang/invoke/VarHandle" ∧ (parseMethodDescriptor yX4_fitsHead.desc).map (fun d => d.parameters.length) = some 2) := ⟨(z_gd 49 (by decide +kernel) rfl), (z_gd 376 rfl rfl), by decide +kernel, by decide +kernel, by decide +kernel⟩
theorem ys_X4_fitsHead : Cond.static yX4_fitsHead ∈ z_good := (z_gd 375 (by decide +kernel) rfl)
theorem ms_X4_41 : z_MS RX4 41 yX4_fitsHead cX4_fitsHead 3 (some .boolean) 2 := ⟨⟨Or.inl (z_gd 374 (by decide +kernel) rfl), yb_X4_fitsHead⟩, ys_X4_fitsHead, by decide⟩
set_option maxRecDepth 20000 in
theorem yb_X8_signAt : Cond.initialized yX8_signAt.cls ∈ z_good ∧ Cond.code yX8_signAt cX8_signAt 2 (some .int) ∈ z_good ∧ (yX8_signAt.cls ≠ "java/lang/invoke/MethodHandle" ∧ yX8_signAt.cls ≠ "java/lang/invoke/VarHandle" ∧ (parseMethodDescriptor yX8_signAt.desc).map (fun d => d.parameters.length) = some 1) := ⟨(z_gd 37 (by decide +kernel) rfl), (z_gd 380 rfl rfl), by decide +kernel, by decide +kernel, by decide +kernel⟩
theorem yi_X8_signAt : Cond.instanceMethod yX8_signAt ∈ z_good := (z_gd 378 (by decide +kernel) rfl)
theorem yv_X8_signAt : Cond.selects yX8_signAt.cls yX8_signAt yX8_signAt ∈ z_good := (z_gd 379 (by decide +kernel) rfl)
theorem mv_X4_31 : z_MV RX4 31 8 yX8_signAt cX8_signAt 2 (some .int) 1 := ⟨⟨Or.inl (z_gd 377 (by decide +kernel) rfl), yb_X8_signAt⟩, yi_X8_signAt, yv_X8_signAt, by decide, rfl, by decide⟩
set_option maxRecDepth 20000 in
theorem yb_X8_figureAt : Cond.initialized yX8_figureAt.cls ∈ z_good ∧ Cond.code yX8_figureAt cX8_figureAt 3 (some .int) ∈ z_good ∧ (yX8_figureAt.cls ≠ "java/lang/invoke/MethodHandle" ∧ yX8_figureAt.cls ≠ "java/lang/invoke/VarHandle" ∧ (parseMethodDescriptor yX8_figureAt.desc).map (fun d => d.parameters.length) = some 1) := ⟨(z_gd 37 (by decide +kernel) rfl), (z_gd 384 rfl rfl), by decide +kernel, by decide +kernel, by decide +kernel⟩
theorem yi_X8_figureAt : Cond.instanceMethod yX8_figureAt ∈ z_good := (z_gd 382 (by decide +kernel) rfl)
theorem yv_X8_figureAt : Cond.selects yX8_figureAt.cls yX8_figureAt yX8_figureAt ∈ z_good := (z_gd 383 (by decide +kernel) rfl)
theorem mv_X4_21 : z_MV RX4 21 8 yX8_figureAt cX8_figureAt 3 (some .int) 1 := ⟨⟨Or.inl (z_gd 381 (by decide +kernel) rfl), yb_X8_figureAt⟩, yi_X8_figureAt, yv_X8_figureAt, by decide, rfl, by decide⟩
theorem mv_X8_19 : z_MV RX8 19 8 yX8_signAt cX8_signAt 2 (some .int) 1 := ⟨⟨Or.inl (z_gd 385 (by decide +kernel) rfl), yb_X8_signAt⟩, yi_X8_signAt, yv_X8_signAt, by decide, rfl, by decide⟩
set_option maxRecDepth 20000 in
theorem yb_X4_readRoad : Cond.initialized yX4_readRoad.cls ∈ z_good ∧ Cond.code yX4_readRoad cX4_readRoad 7 (some .int) ∈ z_good ∧ (yX4_readRoad.cls ≠ "java/lang/invoke/MethodHandle" ∧ yX4_readRoad.cls ≠ "java/lang/invoke/VarHandle" ∧ (parseMethodDescriptor yX4_readRoad.desc).map (fun d => d.parameters.length) = some 3) := ⟨(z_gd 49 (by decide +kernel) rfl), (z_gd 389 rfl rfl), by decide +kernel, by decide +kernel, by decide +kernel⟩
theorem ys_X4_readRoad : Cond.static yX4_readRoad ∈ z_good := (z_gd 388 (by decide +kernel) rfl)
theorem ms_X4_34 : z_MS RX4 34 yX4_readRoad cX4_readRoad 7 (some .int) 3 := ⟨⟨Or.inl (z_gd 387 (by decide +kernel) rfl), yb_X4_readRoad⟩, ys_X4_readRoad, by decide⟩
set_option maxRecDepth 20000 in
theorem yb_X1_hasRoomForRoad : Cond.initialized yX1_hasRoomForRoad.cls ∈ z_good ∧ Cond.code yX1_hasRoomForRoad cX1_hasRoomForRoad 1 (some .boolean) ∈ z_good ∧ (yX1_hasRoomForRoad.cls ≠ "java/lang/invoke/MethodHandle" ∧ yX1_hasRoomForRoad.cls ≠ "java/lang/invoke/VarHandle" ∧ (parseMethodDescriptor yX1_hasRoomForRoad.desc).map (fun d => d.parameters.length) = some 0) := ⟨(z_gd 46 (by decide +kernel) rfl), (z_gd 393 rfl rfl), by decide +kernel, by decide +kernel, by decide +kernel⟩
theorem yi_X1_hasRoomForRoad : Cond.instanceMethod yX1_hasRoomForRoad ∈ z_good := (z_gd 391 (by decide +kernel) rfl)
theorem yv_X1_hasRoomForRoad : Cond.selects yX1_hasRoomForRoad.cls yX1_hasRoomForRoad yX1_hasRoomForRoad ∈ z_good := (z_gd 392 (by decide +kernel) rfl)
theorem mv_X4_45 : z_MV RX4 45 1 yX1_hasRoomForRoad cX1_hasRoomForRoad 1 (some .boolean) 0 := ⟨⟨Or.inl (z_gd 390 (by decide +kernel) rfl), yb_X1_hasRoomForRoad⟩, yi_X1_hasRoomForRoad, yv_X1_hasRoomForRoad, by decide, rfl, by decide⟩
set_option maxRecDepth 20000 in
theorem yb_X1_hasFreePairAt : Cond.initialized yX1_hasFreePairAt.cls ∈ z_good ∧ Cond.code yX1_hasFreePairAt cX1_hasFreePairAt 3 (some .boolean) ∈ z_good ∧ (yX1_hasFreePairAt.cls ≠ "java/lang/invoke/MethodHandle" ∧ yX1_hasFreePairAt.cls ≠ "java/lang/invoke/VarHandle" ∧ (parseMethodDescriptor yX1_hasFreePairAt.desc).map (fun d => d.parameters.length) = some 1) := ⟨(z_gd 46 (by decide +kernel) rfl), (z_gd 397 rfl rfl), by decide +kernel, by decide +kernel, by decide +kernel⟩
theorem yi_X1_hasFreePairAt : Cond.instanceMethod yX1_hasFreePairAt ∈ z_good := (z_gd 395 (by decide +kernel) rfl)
theorem yv_X1_hasFreePairAt : Cond.selects yX1_hasFreePairAt.cls yX1_hasFreePairAt yX1_hasFreePairAt ∈ z_good := (z_gd 396 (by decide +kernel) rfl)
theorem mv_X4_49 : z_MV RX4 49 1 yX1_hasFreePairAt cX1_hasFreePairAt 3 (some .boolean) 1 := ⟨⟨Or.inl (z_gd 394 (by decide +kernel) rfl), yb_X1_hasFreePairAt⟩, yi_X1_hasFreePairAt, yv_X1_hasFreePairAt, by decide, rfl, by decide⟩
set_option maxRecDepth 20000 in
theorem yb_X1_isFreePair : Cond.initialized yX1_isFreePair.cls ∈ z_good ∧ Cond.code yX1_isFreePair cX1_isFreePair 3 (some .boolean) ∈ z_good ∧ (yX1_isFreePair.cls ≠ "java/lang/invoke/MethodHandle" ∧ yX1_isFreePair.cls ≠ "java/lang/invoke/VarHandle" ∧ (parseMethodDescriptor yX1_isFreePair.desc).map (fun d => d.parameters.length) = some 2) := ⟨(z_gd 46 (by decide +kernel) rfl), (z_gd 401 rfl rfl), by decide +kernel, by decide +kernel, by decide +kernel⟩
theorem yi_X1_isFreePair : Cond.instanceMethod yX1_isFreePair ∈ z_good := (z_gd 399 (by decide +kernel) rfl)
theorem yv_X1_isFreePair : Cond.selects yX1_isFreePair.cls yX1_isFreePair yX1_isFreePair ∈ z_good := (z_gd 400 (by decide +kernel) rfl)
theorem mv_X1_60 : z_MV RX1 60 1 yX1_isFreePair cX1_isFreePair 3 (some .boolean) 2 := ⟨⟨Or.inl (z_gd 398 (by decide +kernel) rfl), yb_X1_isFreePair⟩, yi_X1_isFreePair, yv_X1_isFreePair, by decide, rfl, by decide⟩
set_option maxRecDepth 20000 in
theorem yb_X1_isPlace : Cond.initialized yX1_isPlace.cls ∈ z_good ∧ Cond.code yX1_isPlace cX1_isPlace 2 (some .boolean) ∈ z_good ∧ (yX1_isPlace.cls ≠ "java/lang/invoke/MethodHandle" ∧ yX1_isPlace.cls ≠ "java/lang/invoke/VarHandle" ∧ (parseMethodDescriptor yX1_isPlace.desc).map (fun d => d.parameters.length) = some 1) := ⟨(z_gd 46 (by decide +kernel) rfl), (z_gd 405 rfl rfl), by decide +kernel, by decide +kernel, by decide +kernel⟩
theorem yi_X1_isPlace : Cond.instanceMethod yX1_isPlace ∈ z_good := (z_gd 403 (by decide +kernel) rfl)
theorem yv_X1_isPlace : Cond.selects yX1_isPlace.cls yX1_isPlace yX1_isPlace ∈ z_good := (z_gd 404 (by decide +kernel) rfl)
theorem mv_X1_56 : z_MV RX1 56 1 yX1_isPlace cX1_isPlace 2 (some .boolean) 1 := ⟨⟨Or.inl (z_gd 402 (by decide +kernel) rfl), yb_X1_isPlace⟩, yi_X1_isPlace, yv_X1_isPlace, by decide, rfl, by decide⟩
theorem mv_X4_53 : z_MV RX4 53 1 yX1_isFreePair cX1_isFreePair 3 (some .boolean) 2 := ⟨⟨Or.inl (z_gd 406 (by decide +kernel) rfl), yb_X1_isFreePair⟩, yi_X1_isFreePair, yv_X1_isFreePair, by decide, rfl, by decide⟩
set_option maxRecDepth 20000 in
theorem yb_X1_addRoad : Cond.initialized yX1_addRoad.cls ∈ z_good ∧ Cond.code yX1_addRoad cX1_addRoad 4 none ∈ z_good ∧ (yX1_addRoad.cls ≠ "java/lang/invoke/MethodHandle" ∧ yX1_addRoad.cls ≠ "java/lang/invoke/VarHandle" ∧ (parseMethodDescriptor yX1_addRoad.desc).map (fun d => d.parameters.length) = some 3) := ⟨(z_gd 46 (by decide +kernel) rfl), (z_gd 410 rfl rfl), by decide +kernel, by decide +kernel, by decide +kernel⟩
theorem yi_X1_addRoad : Cond.instanceMethod yX1_addRoad ∈ z_good := (z_gd 408 (by decide +kernel) rfl)
theorem yv_X1_addRoad : Cond.selects yX1_addRoad.cls yX1_addRoad yX1_addRoad ∈ z_good := (z_gd 409 (by decide +kernel) rfl)
theorem mv_X4_57 : z_MV RX4 57 1 yX1_addRoad cX1_addRoad 4 none 3 := ⟨⟨Or.inl (z_gd 407 (by decide +kernel) rfl), yb_X1_addRoad⟩, yi_X1_addRoad, yv_X1_addRoad, by decide, rfl, by decide⟩
set_option maxRecDepth 20000 in
theorem yb_X4_readErrand : Cond.initialized yX4_readErrand.cls ∈ z_good ∧ Cond.code yX4_readErrand cX4_readErrand 6 (some .int) ∈ z_good ∧ (yX4_readErrand.cls ≠ "java/lang/invoke/MethodHandle" ∧ yX4_readErrand.cls ≠ "java/lang/invoke/VarHandle" ∧ (parseMethodDescriptor yX4_readErrand.desc).map (fun d => d.parameters.length) = some 3) := ⟨(z_gd 49 (by decide +kernel) rfl), (z_gd 413 rfl rfl), by decide +kernel, by decide +kernel, by decide +kernel⟩
theorem ys_X4_readErrand : Cond.static yX4_readErrand ∈ z_good := (z_gd 412 (by decide +kernel) rfl)
theorem ms_X4_38 : z_MS RX4 38 yX4_readErrand cX4_readErrand 6 (some .int) 3 := ⟨⟨Or.inl (z_gd 411 (by decide +kernel) rfl), yb_X4_readErrand⟩, ys_X4_readErrand, by decide⟩
set_option maxRecDepth 20000 in
theorem yb_X1_hasRoomForErrand : Cond.initialized yX1_hasRoomForErrand.cls ∈ z_good ∧ Cond.code yX1_hasRoomForErrand cX1_hasRoomForErrand 1 (some .boolean) ∈ z_good ∧ (yX1_hasRoomForErrand.cls ≠ "java/lang/invoke/MethodHandle" ∧ yX1_hasRoomForErrand.cls ≠ "java/lang/invoke/VarHandle" ∧ (parseMethodDescriptor yX1_hasRoomForErrand.desc).map (fun d => d.parameters.length) = some 0) := ⟨(z_gd 46 (by decide +kernel) rfl), (z_gd 417 rfl rfl), by decide +kernel, by decide +kernel, by decide +kernel⟩
theorem yi_X1_hasRoomForErrand : Cond.instanceMethod yX1_hasRoomForErrand ∈ z_good := (z_gd 415 (by decide +kernel) rfl)
theorem yv_X1_hasRoomForErrand : Cond.selects yX1_hasRoomForErrand.cls yX1_hasRoomForErrand yX1_hasRoomForErrand ∈ z_good := (z_gd 416 (by decide +kernel) rfl)
theorem mv_X4_61 : z_MV RX4 61 1 yX1_hasRoomForErrand cX1_hasRoomForErrand 1 (some .boolean) 0 := ⟨⟨Or.inl (z_gd 414 (by decide +kernel) rfl), yb_X1_hasRoomForErrand⟩, yi_X1_hasRoomForErrand, yv_X1_hasRoomForErrand, by decide, rfl, by decide⟩
theorem mv_X4_64 : z_MV RX4 64 1 yX1_isPlace cX1_isPlace 2 (some .boolean) 1 := ⟨⟨Or.inl (z_gd 418 (by decide +kernel) rfl), yb_X1_isPlace⟩, yi_X1_isPlace, yv_X1_isPlace, by decide, rfl, by decide⟩
set_option maxRecDepth 20000 in
theorem yb_X1_addErrand : Cond.initialized yX1_addErrand.cls ∈ z_good ∧ Cond.code yX1_addErrand cX1_addErrand 4 none ∈ z_good ∧ (yX1_addErrand.cls ≠ "java/lang/invoke/MethodHandle" ∧ yX1_addErrand.cls ≠ "java/lang/invoke/VarHandle" ∧ (parseMethodDescriptor yX1_addErrand.desc).map (fun d => d.parameters.length) = some 3) := ⟨(z_gd 46 (by decide +kernel) rfl), (z_gd 422 rfl rfl), by decide +kernel, by decide +kernel, by decide +kernel⟩
theorem yi_X1_addErrand : Cond.instanceMethod yX1_addErrand ∈ z_good := (z_gd 420 (by decide +kernel) rfl)
theorem yv_X1_addErrand : Cond.selects yX1_addErrand.cls yX1_addErrand yX1_addErrand ∈ z_good := (z_gd 421 (by decide +kernel) rfl)
theorem mv_X4_67 : z_MV RX4 67 1 yX1_addErrand cX1_addErrand 4 none 3 := ⟨⟨Or.inl (z_gd 419 (by decide +kernel) rfl), yb_X1_addErrand⟩, yi_X1_addErrand, yv_X1_addErrand, by decide, rfl, by decide⟩
theorem mv_X1_64 : z_MV RX1 64 1 yX1_hasRoomForErrand cX1_hasRoomForErrand 1 (some .boolean) 0 := ⟨⟨Or.inl (z_gd 423 (by decide +kernel) rfl), yb_X1_hasRoomForErrand⟩, yi_X1_hasRoomForErrand, yv_X1_hasRoomForErrand, by decide, rfl, by decide⟩
set_option maxRecDepth 20000 in
theorem yb_X11_day : Cond.initialized yX11_day.cls ∈ z_good ∧ Cond.code yX11_day cX11_day 2 (some .int) ∈ z_good ∧ (yX11_day.cls ≠ "java/lang/invoke/MethodHandle" ∧ yX11_day.cls ≠ "java/lang/invoke/VarHandle" ∧ (parseMethodDescriptor yX11_day.desc).map (fun d => d.parameters.length) = some 0) := ⟨(z_gd 36 (by decide +kernel) rfl), (z_gd 427 rfl rfl), by decide +kernel, by decide +kernel, by decide +kernel⟩
theorem yi_X11_day : Cond.instanceMethod yX11_day ∈ z_good := (z_gd 425 (by decide +kernel) rfl)
theorem yv_X11_day : Cond.selects yX11_day.cls yX11_day yX11_day ∈ z_good := (z_gd 426 (by decide +kernel) rfl)
theorem mv_L_29 : z_MV RL 29 11 yX11_day cX11_day 2 (some .int) 0 := ⟨⟨Or.inl (z_gd 424 (by decide +kernel) rfl), yb_X11_day⟩, yi_X11_day, yv_X11_day, by decide, rfl, by decide⟩
set_option maxRecDepth 20000 in
theorem yb_X7_begin : Cond.initialized yX7_begin.cls ∈ z_good ∧ Cond.code yX7_begin cX7_begin 2 none ∈ z_good ∧ (yX7_begin.cls ≠ "java/lang/invoke/MethodHandle" ∧ yX7_begin.cls ≠ "java/lang/invoke/VarHandle" ∧ (parseMethodDescriptor yX7_begin.desc).map (fun d => d.parameters.length) = some 1) := ⟨(z_gd 38 (by decide +kernel) rfl), (z_gd 432 rfl rfl), by decide +kernel, by decide +kernel, by decide +kernel⟩
theorem yi_X7_begin : Cond.instanceMethod yX7_begin ∈ z_good := (z_gd 430 (by decide +kernel) rfl)
theorem yv_X7_begin : Cond.selects yX7_begin.cls yX7_begin yX7_begin ∈ z_good := (z_gd 431 (by decide +kernel) rfl)
theorem mv_X11_110 : z_MV RX11 110 7 yX7_begin cX7_begin 2 none 1 := ⟨⟨Or.inl (z_gd 429 (by decide +kernel) rfl), yb_X7_begin⟩, yi_X7_begin, yv_X7_begin, by decide, rfl, by decide⟩
set_option maxRecDepth 20000 in
theorem yb_X0_forget : Cond.initialized yX0_forget.cls ∈ z_good ∧ Cond.code yX0_forget cX0_forget 1 none ∈ z_good ∧ (yX0_forget.cls ≠ "java/lang/invoke/MethodHandle" ∧ yX0_forget.cls ≠ "java/lang/invoke/VarHandle" ∧ (parseMethodDescriptor yX0_forget.desc).map (fun d => d.parameters.length) = some 0) := ⟨(z_gd 39 (by decide +kernel) rfl), (z_gd 436 rfl rfl), by decide +kernel, by decide +kernel, by decide +kernel⟩
theorem yi_X0_forget : Cond.instanceMethod yX0_forget ∈ z_good := (z_gd 434 (by decide +kernel) rfl)
theorem yv_X0_forget : Cond.selects yX0_forget.cls yX0_forget yX0_forget ∈ z_good := (z_gd 435 (by decide +kernel) rfl)
theorem mv_X11_114 : z_MV RX11 114 0 yX0_forget cX0_forget 1 none 0 := ⟨⟨Or.inl (z_gd 433 (by decide +kernel) rfl), yb_X0_forget⟩, yi_X0_forget, yv_X0_forget, by decide, rfl, by decide⟩
set_option maxRecDepth 20000 in
theorem yb_X6_forget : Cond.initialized yX6_forget.cls ∈ z_good ∧ Cond.code yX6_forget cX6_forget 2 none ∈ z_good ∧ (yX6_forget.cls ≠ "java/lang/invoke/MethodHandle" ∧ yX6_forget.cls ≠ "java/lang/invoke/VarHandle" ∧ (parseMethodDescriptor yX6_forget.desc).map (fun d => d.parameters.length) = some 0) := ⟨(z_gd 40 (by decide +kernel) rfl), (z_gd 440 rfl rfl), by decide +kernel, by decide +kernel, by decide +kernel⟩
theorem yi_X6_forget : Cond.instanceMethod yX6_forget ∈ z_good := (z_gd 438 (by decide +kernel) rfl)
theorem yv_X6_forget : Cond.selects yX6_forget.cls yX6_forget yX6_forget ∈ z_good := (z_gd 439 (by decide +kernel) rfl)
theorem mv_X11_117 : z_MV RX11 117 6 yX6_forget cX6_forget 2 none 0 := ⟨⟨Or.inl (z_gd 437 (by decide +kernel) rfl), yb_X6_forget⟩, yi_X6_forget, yv_X6_forget, by decide, rfl, by decide⟩
set_option maxRecDepth 20000 in
theorem yb_X11_about : Cond.initialized yX11_about.cls ∈ z_good ∧ Cond.code yX11_about cX11_about 2 (some .int) ∈ z_good ∧ (yX11_about.cls ≠ "java/lang/invoke/MethodHandle" ∧ yX11_about.cls ≠ "java/lang/invoke/VarHandle" ∧ (parseMethodDescriptor yX11_about.desc).map (fun d => d.parameters.length) = some 1) := ⟨(z_gd 36 (by decide +kernel) rfl), (z_gd 444 rfl rfl), by decide +kernel, by decide +kernel, by decide +kernel⟩
theorem yi_X11_about : Cond.instanceMethod yX11_about ∈ z_good := (z_gd 442 (by decide +kernel) rfl)
theorem yv_X11_about : Cond.selects yX11_about.cls yX11_about yX11_about ∈ z_good := (z_gd 443 (by decide +kernel) rfl)
theorem mv_L_33 : z_MV RL 33 11 yX11_about cX11_about 2 (some .int) 1 := ⟨⟨Or.inl (z_gd 441 (by decide +kernel) rfl), yb_X11_about⟩, yi_X11_about, yv_X11_about, by decide, rfl, by decide⟩
set_option maxRecDepth 20000 in
theorem yb_X1_worthOfSet : Cond.initialized yX1_worthOfSet.cls ∈ z_good ∧ Cond.code yX1_worthOfSet cX1_worthOfSet 4 (some .int) ∈ z_good ∧ (yX1_worthOfSet.cls ≠ "java/lang/invoke/MethodHandle" ∧ yX1_worthOfSet.cls ≠ "java/lang/invoke/VarHandle" ∧ (parseMethodDescriptor yX1_worthOfSet.desc).map (fun d => d.parameters.length) = some 1) := ⟨(z_gd 46 (by decide +kernel) rfl), (z_gd 448 rfl rfl), by decide +kernel, by decide +kernel, by decide +kernel⟩
theorem yi_X1_worthOfSet : Cond.instanceMethod yX1_worthOfSet ∈ z_good := (z_gd 446 (by decide +kernel) rfl)
theorem yv_X1_worthOfSet : Cond.selects yX1_worthOfSet.cls yX1_worthOfSet yX1_worthOfSet ∈ z_good := (z_gd 447 (by decide +kernel) rfl)
theorem mv_X11_133 : z_MV RX11 133 1 yX1_worthOfSet cX1_worthOfSet 4 (some .int) 1 := ⟨⟨Or.inl (z_gd 445 (by decide +kernel) rfl), yb_X1_worthOfSet⟩, yi_X1_worthOfSet, yv_X1_worthOfSet, by decide, rfl, by decide⟩
set_option maxRecDepth 20000 in
theorem yb_X1_worthOf : Cond.initialized yX1_worthOf.cls ∈ z_good ∧ Cond.code yX1_worthOf cX1_worthOf 2 (some .int) ∈ z_good ∧ (yX1_worthOf.cls ≠ "java/lang/invoke/MethodHandle" ∧ yX1_worthOf.cls ≠ "java/lang/invoke/VarHandle" ∧ (parseMethodDescriptor yX1_worthOf.desc).map (fun d => d.parameters.length) = some 1) := ⟨(z_gd 46 (by decide +kernel) rfl), (z_gd 452 rfl rfl), by decide +kernel, by decide +kernel, by decide +kernel⟩
theorem yi_X1_worthOf : Cond.instanceMethod yX1_worthOf ∈ z_good := (z_gd 450 (by decide +kernel) rfl)
theorem yv_X1_worthOf : Cond.selects yX1_worthOf.cls yX1_worthOf yX1_worthOf ∈ z_good := (z_gd 451 (by decide +kernel) rfl)
theorem mv_X1_78 : z_MV RX1 78 1 yX1_worthOf cX1_worthOf 2 (some .int) 1 := ⟨⟨Or.inl (z_gd 449 (by decide +kernel) rfl), yb_X1_worthOf⟩, yi_X1_worthOf, yv_X1_worthOf, by decide, rfl, by decide⟩
set_option maxRecDepth 20000 in
theorem yb_X1_isErrand : Cond.initialized yX1_isErrand.cls ∈ z_good ∧ Cond.code yX1_isErrand cX1_isErrand 2 (some .boolean) ∈ z_good ∧ (yX1_isErrand.cls ≠ "java/lang/invoke/MethodHandle" ∧ yX1_isErrand.cls ≠ "java/lang/invoke/VarHandle" ∧ (parseMethodDescriptor yX1_isErrand.desc).map (fun d => d.parameters.length) = some 1) := ⟨(z_gd 46 (by decide +kernel) rfl), (z_gd 456 rfl rfl), by decide +kernel, by decide +kernel, by decide +kernel⟩
theorem yi_X1_isErrand : Cond.instanceMethod yX1_isErrand ∈ z_good := (z_gd 454 (by decide +kernel) rfl)
theorem yv_X1_isErrand : Cond.selects yX1_isErrand.cls yX1_isErrand yX1_isErrand ∈ z_good := (z_gd 455 (by decide +kernel) rfl)
theorem mv_X1_72 : z_MV RX1 72 1 yX1_isErrand cX1_isErrand 2 (some .boolean) 1 := ⟨⟨Or.inl (z_gd 453 (by decide +kernel) rfl), yb_X1_isErrand⟩, yi_X1_isErrand, yv_X1_isErrand, by decide, rfl, by decide⟩
set_option maxRecDepth 20000 in
theorem yb_X7_owedToThem : Cond.initialized yX7_owedToThem.cls ∈ z_good ∧ Cond.code yX7_owedToThem cX7_owedToThem 3 (some .int) ∈ z_good ∧ (yX7_owedToThem.cls ≠ "java/lang/invoke/MethodHandle" ∧ yX7_owedToThem.cls ≠ "java/lang/invoke/VarHandle" ∧ (parseMethodDescriptor yX7_owedToThem.desc).map (fun d => d.parameters.length) = some 0) := ⟨(z_gd 38 (by decide +kernel) rfl), (z_gd 460 rfl rfl), by decide +kernel, by decide +kernel, by decide +kernel⟩
theorem yi_X7_owedToThem : Cond.instanceMethod yX7_owedToThem ∈ z_good := (z_gd 458 (by decide +kernel) rfl)
theorem yv_X7_owedToThem : Cond.selects yX7_owedToThem.cls yX7_owedToThem yX7_owedToThem ∈ z_good := (z_gd 459 (by decide +kernel) rfl)
theorem mv_X11_143 : z_MV RX11 143 7 yX7_owedToThem cX7_owedToThem 3 (some .int) 0 := ⟨⟨Or.inl (z_gd 457 (by decide +kernel) rfl), yb_X7_owedToThem⟩, yi_X7_owedToThem, yv_X7_owedToThem, by decide, rfl, by decide⟩
set_option maxRecDepth 20000 in
theorem yb_X7_owedFor : Cond.initialized yX7_owedFor.cls ∈ z_good ∧ Cond.code yX7_owedFor cX7_owedFor 3 (some .int) ∈ z_good ∧ (yX7_owedFor.cls ≠ "java/lang/invoke/MethodHandle" ∧ yX7_owedFor.cls ≠ "java/lang/invoke/VarHandle" ∧ (parseMethodDescriptor yX7_owedFor.desc).map (fun d => d.parameters.length) = some 1) := ⟨(z_gd 38 (by decide +kernel) rfl), (z_gd 463 rfl rfl), by decide +kernel, by decide +kernel, by decide +kernel⟩
theorem ys_X7_owedFor : Cond.static yX7_owedFor ∈ z_good := (z_gd 462 (by decide +kernel) rfl)
theorem ms_X7_40 : z_MS RX7 40 yX7_owedFor cX7_owedFor 3 (some .int) 1 := ⟨⟨Or.inl (z_gd 461 (by decide +kernel) rfl), yb_X7_owedFor⟩, ys_X7_owedFor, by decide⟩
set_option maxRecDepth 20000 in
theorem mx_X7_34 : z_MM RX7 34 Lib.Math.abs.name Lib.Math.abs.code 1 := ⟨(z_gd 464 (by decide +kernel) rfl), (z_gd 465 (by decide +kernel) rfl), (z_gd 47 (by decide +kernel) rfl), (z_gd 466 (by decide +kernel) rfl)⟩
set_option maxRecDepth 20000 in
theorem yb_X11_at : Cond.initialized yX11_at.cls ∈ z_good ∧ Cond.code yX11_at cX11_at 2 (some .int) ∈ z_good ∧ (yX11_at.cls ≠ "java/lang/invoke/MethodHandle" ∧ yX11_at.cls ≠ "java/lang/invoke/VarHandle" ∧ (parseMethodDescriptor yX11_at.desc).map (fun d => d.parameters.length) = some 1) := ⟨(z_gd 36 (by decide +kernel) rfl), (z_gd 470 rfl rfl), by decide +kernel, by decide +kernel, by decide +kernel⟩
theorem yi_X11_at : Cond.instanceMethod yX11_at ∈ z_good := (z_gd 468 (by decide +kernel) rfl)
theorem yv_X11_at : Cond.selects yX11_at.cls yX11_at yX11_at ∈ z_good := (z_gd 469 (by decide +kernel) rfl)
theorem mv_L_38 : z_MV RL 38 11 yX11_at cX11_at 2 (some .int) 1 := ⟨⟨Or.inl (z_gd 467 (by decide +kernel) rfl), yb_X11_at⟩, yi_X11_at, yv_X11_at, by decide, rfl, by decide⟩
set_option maxRecDepth 20000 in
theorem yb_X11_isWalker : Cond.initialized yX11_isWalker.cls ∈ z_good ∧ Cond.code yX11_isWalker cX11_isWalker 1 (some .boolean) ∈ z_good ∧ (yX11_isWalker.cls ≠ "java/lang/invoke/MethodHandle" ∧ yX11_isWalker.cls ≠ "java/lang/invoke/VarHandle" ∧ (parseMethodDescriptor yX11_isWalker.desc).map (fun d => d.parameters.length) = some 1) := ⟨(z_gd 36 (by decide +kernel) rfl), (z_gd 473 rfl rfl), by decide +kernel, by decide +kernel, by decide +kernel⟩
theorem ys_X11_isWalker : Cond.static yX11_isWalker ∈ z_good := (z_gd 472 (by decide +kernel) rfl)
theorem ms_X11_146 : z_MS RX11 146 yX11_isWalker cX11_isWalker 1 (some .boolean) 1 := ⟨⟨Or.inl (z_gd 471 (by decide +kernel) rfl), yb_X11_isWalker⟩, ys_X11_isWalker, by decide⟩
set_option maxRecDepth 20000 in
theorem yb_X7_placeOf : Cond.initialized yX7_placeOf.cls ∈ z_good ∧ Cond.code yX7_placeOf cX7_placeOf 2 (some .int) ∈ z_good ∧ (yX7_placeOf.cls ≠ "java/lang/invoke/MethodHandle" ∧ yX7_placeOf.cls ≠ "java/lang/invoke/VarHandle" ∧ (parseMethodDescriptor yX7_placeOf.desc).map (fun d => d.parameters.length) = some 1) := ⟨(z_gd 38 (by decide +kernel) rfl), (z_gd 477 rfl rfl), by decide +kernel, by decide +kernel, by decide +kernel⟩
theorem yi_X7_placeOf : Cond.instanceMethod yX7_placeOf ∈ z_good := (z_gd 475 (by decide +kernel) rfl)
theorem yv_X7_placeOf : Cond.selects yX7_placeOf.cls yX7_placeOf yX7_placeOf ∈ z_good := (z_gd 476 (by decide +kernel) rfl)
theorem mv_X11_150 : z_MV RX11 150 7 yX7_placeOf cX7_placeOf 2 (some .int) 1 := ⟨⟨Or.inl (z_gd 474 (by decide +kernel) rfl), yb_X7_placeOf⟩, yi_X7_placeOf, yv_X7_placeOf, by decide, rfl, by decide⟩
set_option maxRecDepth 20000 in
theorem yb_X11_far : Cond.initialized yX11_far.cls ∈ z_good ∧ Cond.code yX11_far cX11_far 3 (some .int) ∈ z_good ∧ (yX11_far.cls ≠ "java/lang/invoke/MethodHandle" ∧ yX11_far.cls ≠ "java/lang/invoke/VarHandle" ∧ (parseMethodDescriptor yX11_far.desc).map (fun d => d.parameters.length) = some 2) := ⟨(z_gd 36 (by decide +kernel) rfl), (z_gd 481 rfl rfl), by decide +kernel, by decide +kernel, by decide +kernel⟩
theorem yi_X11_far : Cond.instanceMethod yX11_far ∈ z_good := (z_gd 479 (by decide +kernel) rfl)
theorem yv_X11_far : Cond.selects yX11_far.cls yX11_far yX11_far ∈ z_good := (z_gd 480 (by decide +kernel) rfl)
theorem mv_L_42 : z_MV RL 42 11 yX11_far cX11_far 3 (some .int) 2 := ⟨⟨Or.inl (z_gd 478 (by decide +kernel) rfl), yb_X11_far⟩, yi_X11_far, yv_X11_far, by decide, rfl, by decide⟩
theorem mv_X11_153 : z_MV RX11 153 1 yX1_isPlace cX1_isPlace 2 (some .boolean) 1 := ⟨⟨Or.inl (z_gd 482 (by decide +kernel) rfl), yb_X1_isPlace⟩, yi_X1_isPlace, yv_X1_isPlace, by decide, rfl, by decide⟩
set_option maxRecDepth 20000 in
theorem yb_X1_between : Cond.initialized yX1_between.cls ∈ z_good ∧ Cond.code yX1_between cX1_between 3 (some .int) ∈ z_good ∧ (yX1_between.cls ≠ "java/lang/invoke/MethodHandle" ∧ yX1_between.cls ≠ "java/lang/invoke/VarHandle" ∧ (parseMethodDescriptor yX1_between.desc).map (fun d => d.parameters.length) = some 2) := ⟨(z_gd 46 (by decide +kernel) rfl), (z_gd 486 rfl rfl), by decide +kernel, by decide +kernel, by decide +kernel⟩
theorem yi_X1_between : Cond.instanceMethod yX1_between ∈ z_good := (z_gd 484 (by decide +kernel) rfl)
theorem yv_X1_between : Cond.selects yX1_between.cls yX1_between yX1_between ∈ z_good := (z_gd 485 (by decide +kernel) rfl)
theorem mv_X11_156 : z_MV RX11 156 1 yX1_between cX1_between 3 (some .int) 2 := ⟨⟨Or.inl (z_gd 483 (by decide +kernel) rfl), yb_X1_between⟩, yi_X1_between, yv_X1_between, by decide, rfl, by decide⟩
set_option maxRecDepth 20000 in
theorem yb_X11_toldSteps : Cond.initialized yX11_toldSteps.cls ∈ z_good ∧ Cond.code yX11_toldSteps cX11_toldSteps 1 (some .int) ∈ z_good ∧ (yX11_toldSteps.cls ≠ "java/lang/invoke/MethodHandle" ∧ yX11_toldSteps.cls ≠ "java/lang/invoke/VarHandle" ∧ (parseMethodDescriptor yX11_toldSteps.desc).map (fun d => d.parameters.length) = some 1) := ⟨(z_gd 36 (by decide +kernel) rfl), (z_gd 489 rfl rfl), by decide +kernel, by decide +kernel, by decide +kernel⟩
theorem ys_X11_toldSteps : Cond.static yX11_toldSteps ∈ z_good := (z_gd 488 (by decide +kernel) rfl)
theorem ms_X11_160 : z_MS RX11 160 yX11_toldSteps cX11_toldSteps 1 (some .int) 1 := ⟨⟨Or.inl (z_gd 487 (by decide +kernel) rfl), yb_X11_toldSteps⟩, ys_X11_toldSteps, by decide⟩
set_option maxRecDepth 20000 in
theorem yb_X11_errand : Cond.initialized yX11_errand.cls ∈ z_good ∧ Cond.code yX11_errand cX11_errand 3 (some .int) ∈ z_good ∧ (yX11_errand.cls ≠ "java/lang/invoke/MethodHandle" ∧ yX11_errand.cls ≠ "java/lang/invoke/VarHandle" ∧ (parseMethodDescriptor yX11_errand.desc).map (fun d => d.parameters.length) = some 2) := ⟨(z_gd 36 (by decide +kernel) rfl), (z_gd 494 rfl rfl), by decide +kernel, by decide +kernel, by decide +kernel⟩
theorem yi_X11_errand : Cond.instanceMethod yX11_errand ∈ z_good := (z_gd 492 (by decide +kernel) rfl)
theorem yv_X11_errand : Cond.selects yX11_errand.cls yX11_errand yX11_errand ∈ z_good := (z_gd 493 (by decide +kernel) rfl)
theorem mv_L_47 : z_MV RL 47 11 yX11_errand cX11_errand 3 (some .int) 2 := ⟨⟨Or.inl (z_gd 491 (by decide +kernel) rfl), yb_X11_errand⟩, yi_X11_errand, yv_X11_errand, by decide, rfl, by decide⟩
theorem mv_X11_163 : z_MV RX11 163 1 yX1_isErrand cX1_isErrand 2 (some .boolean) 1 := ⟨⟨Or.inl (z_gd 495 (by decide +kernel) rfl), yb_X1_isErrand⟩, yi_X1_isErrand, yv_X1_isErrand, by decide, rfl, by decide⟩
set_option maxRecDepth 20000 in
theorem yb_X1_siteOf : Cond.initialized yX1_siteOf.cls ∈ z_good ∧ Cond.code yX1_siteOf cX1_siteOf 2 (some .int) ∈ z_good ∧ (yX1_siteOf.cls ≠ "java/lang/invoke/MethodHandle" ∧ yX1_siteOf.cls ≠ "java/lang/invoke/VarHandle" ∧ (parseMethodDescriptor yX1_siteOf.desc).map (fun d => d.parameters.length) = some 1) := ⟨(z_gd 46 (by decide +kernel) rfl), (z_gd 499 rfl rfl), by decide +kernel, by decide +kernel, by decide +kernel⟩
theorem yi_X1_siteOf : Cond.instanceMethod yX1_siteOf ∈ z_good := (z_gd 497 (by decide +kernel) rfl)
theorem yv_X1_siteOf : Cond.selects yX1_siteOf.cls yX1_siteOf yX1_siteOf ∈ z_good := (z_gd 498 (by decide +kernel) rfl)
theorem mv_X11_166 : z_MV RX11 166 1 yX1_siteOf cX1_siteOf 2 (some .int) 1 := ⟨⟨Or.inl (z_gd 496 (by decide +kernel) rfl), yb_X1_siteOf⟩, yi_X1_siteOf, yv_X1_siteOf, by decide, rfl, by decide⟩
theorem mv_X11_169 : z_MV RX11 169 1 yX1_worthOf cX1_worthOf 2 (some .int) 1 := ⟨⟨Or.inl (z_gd 500 (by decide +kernel) rfl), yb_X1_worthOf⟩, yi_X1_worthOf, yv_X1_worthOf, by decide, rfl, by decide⟩
set_option maxRecDepth 20000 in
theorem yb_X1_doerOf : Cond.initialized yX1_doerOf.cls ∈ z_good ∧ Cond.code yX1_doerOf cX1_doerOf 2 (some .int) ∈ z_good ∧ (yX1_doerOf.cls ≠ "java/lang/invoke/MethodHandle" ∧ yX1_doerOf.cls ≠ "java/lang/invoke/VarHandle" ∧ (parseMethodDescriptor yX1_doerOf.desc).map (fun d => d.parameters.length) = some 1) := ⟨(z_gd 46 (by decide +kernel) rfl), (z_gd 504 rfl rfl), by decide +kernel, by decide +kernel, by decide +kernel⟩
theorem yi_X1_doerOf : Cond.instanceMethod yX1_doerOf ∈ z_good := (z_gd 502 (by decide +kernel) rfl)
theorem yv_X1_doerOf : Cond.selects yX1_doerOf.cls yX1_doerOf yX1_doerOf ∈ z_good := (z_gd 503 (by decide +kernel) rfl)
theorem mv_X11_172 : z_MV RX11 172 1 yX1_doerOf cX1_doerOf 2 (some .int) 1 := ⟨⟨Or.inl (z_gd 501 (by decide +kernel) rfl), yb_X1_doerOf⟩, yi_X1_doerOf, yv_X1_doerOf, by decide, rfl, by decide⟩
set_option maxRecDepth 20000 in
theorem yb_X7_isDone : Cond.initialized yX7_isDone.cls ∈ z_good ∧ Cond.code yX7_isDone cX7_isDone 2 (some .boolean) ∈ z_good ∧ (yX7_isDone.cls ≠ "java/lang/invoke/MethodHandle" ∧ yX7_isDone.cls ≠ "java/lang/invoke/VarHandle" ∧ (parseMethodDescriptor yX7_isDone.desc).map (fun d => d.parameters.length) = some 1) := ⟨(z_gd 38 (by decide +kernel) rfl), (z_gd 508 rfl rfl), by decide +kernel, by decide +kernel, by decide +kernel⟩
theorem yi_X7_isDone : Cond.instanceMethod yX7_isDone ∈ z_good := (z_gd 506 (by decide +kernel) rfl)
theorem yv_X7_isDone : Cond.selects yX7_isDone.cls yX7_isDone yX7_isDone ∈ z_good := (z_gd 507 (by decide +kernel) rfl)
theorem mv_X11_175 : z_MV RX11 175 7 yX7_isDone cX7_isDone 2 (some .boolean) 1 := ⟨⟨Or.inl (z_gd 505 (by decide +kernel) rfl), yb_X7_isDone⟩, yi_X7_isDone, yv_X7_isDone, by decide, rfl, by decide⟩
set_option maxRecDepth 20000 in
theorem yb_X7_whoDid : Cond.initialized yX7_whoDid.cls ∈ z_good ∧ Cond.code yX7_whoDid cX7_whoDid 2 (some .int) ∈ z_good ∧ (yX7_whoDid.cls ≠ "java/lang/invoke/MethodHandle" ∧ yX7_whoDid.cls ≠ "java/lang/invoke/VarHandle" ∧ (parseMethodDescriptor yX7_whoDid.desc).map (fun d => d.parameters.length) = some 1) := ⟨(z_gd 38 (by decide +kernel) rfl), (z_gd 512 rfl rfl), by decide +kernel, by decide +kernel, by decide +kernel⟩
theorem yi_X7_whoDid : Cond.instanceMethod yX7_whoDid ∈ z_good := (z_gd 510 (by decide +kernel) rfl)
theorem yv_X7_whoDid : Cond.selects yX7_whoDid.cls yX7_whoDid yX7_whoDid ∈ z_good := (z_gd 511 (by decide +kernel) rfl)
theorem mv_X11_178 : z_MV RX11 178 7 yX7_whoDid cX7_whoDid 2 (some .int) 1 := ⟨⟨Or.inl (z_gd 509 (by decide +kernel) rfl), yb_X7_whoDid⟩, yi_X7_whoDid, yv_X7_whoDid, by decide, rfl, by decide⟩
set_option maxRecDepth 20000 in
theorem yb_X11_walk : Cond.initialized yX11_walk.cls ∈ z_good ∧ Cond.code yX11_walk cX11_walk 4 (some .int) ∈ z_good ∧ (yX11_walk.cls ≠ "java/lang/invoke/MethodHandle" ∧ yX11_walk.cls ≠ "java/lang/invoke/VarHandle" ∧ (parseMethodDescriptor yX11_walk.desc).map (fun d => d.parameters.length) = some 2) := ⟨(z_gd 36 (by decide +kernel) rfl), (z_gd 516 rfl rfl), by decide +kernel, by decide +kernel, by decide +kernel⟩
theorem yi_X11_walk : Cond.instanceMethod yX11_walk ∈ z_good := (z_gd 514 (by decide +kernel) rfl)
theorem yv_X11_walk : Cond.selects yX11_walk.cls yX11_walk yX11_walk ∈ z_good := (z_gd 515 (by decide +kernel) rfl)
theorem mv_L_51 : z_MV RL 51 11 yX11_walk cX11_walk 4 (some .int) 2 := ⟨⟨Or.inl (z_gd 513 (by decide +kernel) rfl), yb_X11_walk⟩, yi_X11_walk, yv_X11_walk, by decide, rfl, by decide⟩
set_option maxRecDepth 20000 in
theorem yb_X11_walkCost : Cond.initialized yX11_walkCost.cls ∈ z_good ∧ Cond.code yX11_walkCost cX11_walkCost 3 (some .int) ∈ z_good ∧ (yX11_walkCost.cls ≠ "java/lang/invoke/MethodHandle" ∧ yX11_walkCost.cls ≠ "java/lang/invoke/VarHandle" ∧ (parseMethodDescriptor yX11_walkCost.desc).map (fun d => d.parameters.length) = some 2) := ⟨(z_gd 36 (by decide +kernel) rfl), (z_gd 520 rfl rfl), by decide +kernel, by decide +kernel, by decide +kernel⟩
theorem yi_X11_walkCost : Cond.instanceMethod yX11_walkCost ∈ z_good := (z_gd 519 (by decide +kernel) rfl)
theorem yv_X11_walkCost : Cond.selects yX11_walkCost.cls yX11_walkCost yX11_walkCost ∈ z_good := (z_gd 2 (by decide +kernel) rfl)
theorem mv_X11_181 : z_MV RX11 181 11 yX11_walkCost cX11_walkCost 3 (some .int) 2 := ⟨⟨Or.inl (z_gd 517 (by decide +kernel) rfl), yb_X11_walkCost⟩, yi_X11_walkCost, yv_X11_walkCost, by decide, rfl, by decide⟩
set_option maxRecDepth 20000 in
theorem yb_X0_remember : Cond.initialized yX0_remember.cls ∈ z_good ∧ Cond.code yX0_remember cX0_remember 2 none ∈ z_good ∧ (yX0_remember.cls ≠ "java/lang/invoke/MethodHandle" ∧ yX0_remember.cls ≠ "java/lang/invoke/VarHandle" ∧ (parseMethodDescriptor yX0_remember.desc).map (fun d => d.parameters.length) = some 1) := ⟨(z_gd 39 (by decide +kernel) rfl), (z_gd 524 rfl rfl), by decide +kernel, by decide +kernel, by decide +kernel⟩
theorem yi_X0_remember : Cond.instanceMethod yX0_remember ∈ z_good := (z_gd 522 (by decide +kernel) rfl)
theorem yv_X0_remember : Cond.selects yX0_remember.cls yX0_remember yX0_remember ∈ z_good := (z_gd 523 (by decide +kernel) rfl)
theorem mv_X11_184 : z_MV RX11 184 0 yX0_remember cX0_remember 2 none 1 := ⟨⟨Or.inl (z_gd 521 (by decide +kernel) rfl), yb_X0_remember⟩, yi_X0_remember, yv_X0_remember, by decide, rfl, by decide⟩
set_option maxRecDepth 20000 in
theorem yb_X7_copyOf : Cond.initialized yX7_copyOf.cls ∈ z_good ∧ Cond.code yX7_copyOf cX7_copyOf 3 none ∈ z_good ∧ (yX7_copyOf.cls ≠ "java/lang/invoke/MethodHandle" ∧ yX7_copyOf.cls ≠ "java/lang/invoke/VarHandle" ∧ (parseMethodDescriptor yX7_copyOf.desc).map (fun d => d.parameters.length) = some 1) := ⟨(z_gd 38 (by decide +kernel) rfl), (z_gd 528 rfl rfl), by decide +kernel, by decide +kernel, by decide +kernel⟩
theorem yi_X7_copyOf : Cond.instanceMethod yX7_copyOf ∈ z_good := (z_gd 526 (by decide +kernel) rfl)
theorem yv_X7_copyOf : Cond.selects yX7_copyOf.cls yX7_copyOf yX7_copyOf ∈ z_good := (z_gd 527 (by decide +kernel) rfl)
theorem mv_X0_22 : z_MV RX0 22 7 yX7_copyOf cX7_copyOf 3 none 1 := ⟨⟨Or.inl (z_gd 525 (by decide +kernel) rfl), yb_X7_copyOf⟩, yi_X7_copyOf, yv_X7_copyOf, by decide, rfl, by decide⟩
set_option maxRecDepth 20000 in
theorem yb_X7_move : Cond.initialized yX7_move.cls ∈ z_good ∧ Cond.code yX7_move cX7_move 3 none ∈ z_good ∧ (yX7_move.cls ≠ "java/lang/invoke/MethodHandle" ∧ yX7_move.cls ≠ "java/lang/invoke/VarHandle" ∧ (parseMethodDescriptor yX7_move.desc).map (fun d => d.parameters.length) = some 2) := ⟨(z_gd 38 (by decide +kernel) rfl), (z_gd 532 rfl rfl), by decide +kernel, by decide +kernel, by decide +kernel⟩
theorem yi_X7_move : Cond.instanceMethod yX7_move ∈ z_good := (z_gd 530 (by decide +kernel) rfl)
theorem yv_X7_move : Cond.selects yX7_move.cls yX7_move yX7_move ∈ z_good := (z_gd 531 (by decide +kernel) rfl)
theorem mv_X11_188 : z_MV RX11 188 7 yX7_move cX7_move 3 none 2 := ⟨⟨Or.inl (z_gd 529 (by decide +kernel) rfl), yb_X7_move⟩, yi_X7_move, yv_X7_move, by decide, rfl, by decide⟩
set_option maxRecDepth 20000 in
theorem yb_X11_carry : Cond.initialized yX11_carry.cls ∈ z_good ∧ Cond.code yX11_carry cX11_carry 4 (some .int) ∈ z_good ∧ (yX11_carry.cls ≠ "java/lang/invoke/MethodHandle" ∧ yX11_carry.cls ≠ "java/lang/invoke/VarHandle" ∧ (parseMethodDescriptor yX11_carry.desc).map (fun d => d.parameters.length) = some 2) := ⟨(z_gd 36 (by decide +kernel) rfl), (z_gd 536 rfl rfl), by decide +kernel, by decide +kernel, by decide +kernel⟩
theorem yi_X11_carry : Cond.instanceMethod yX11_carry ∈ z_good := (z_gd 534 (by decide +kernel) rfl)
theorem yv_X11_carry : Cond.selects yX11_carry.cls yX11_carry yX11_carry ∈ z_good := (z_gd 535 (by decide +kernel) rfl)
theorem mv_L_55 : z_MV RL 55 11 yX11_carry cX11_carry 4 (some .int) 2 := ⟨⟨Or.inl (z_gd 533 (by decide +kernel) rfl), yb_X11_carry⟩, yi_X11_carry, yv_X11_carry, by decide, rfl, by decide⟩
set_option maxRecDepth 20000 in
theorem yb_X11_done : Cond.initialized yX11_done.cls ∈ z_good ∧ Cond.code yX11_done cX11_done 3 (some .int) ∈ z_good ∧ (yX11_done.cls ≠ "java/lang/invoke/MethodHandle" ∧ yX11_done.cls ≠ "java/lang/invoke/VarHandle" ∧ (parseMethodDescriptor yX11_done.desc).map (fun d => d.parameters.length) = some 2) := ⟨(z_gd 36 (by decide +kernel) rfl), (z_gd 540 rfl rfl), by decide +kernel, by decide +kernel, by decide +kernel⟩
theorem yi_X11_done : Cond.instanceMethod yX11_done ∈ z_good := (z_gd 538 (by decide +kernel) rfl)
theorem yv_X11_done : Cond.selects yX11_done.cls yX11_done yX11_done ∈ z_good := (z_gd 539 (by decide +kernel) rfl)
theorem mv_L_59 : z_MV RL 59 11 yX11_done cX11_done 3 (some .int) 2 := ⟨⟨Or.inl (z_gd 537 (by decide +kernel) rfl), yb_X11_done⟩, yi_X11_done, yv_X11_done, by decide, rfl, by decide⟩
set_option maxRecDepth 20000 in
theorem yb_X1_canDo : Cond.initialized yX1_canDo.cls ∈ z_good ∧ Cond.code yX1_canDo cX1_canDo 3 (some .boolean) ∈ z_good ∧ (yX1_canDo.cls ≠ "java/lang/invoke/MethodHandle" ∧ yX1_canDo.cls ≠ "java/lang/invoke/VarHandle" ∧ (parseMethodDescriptor yX1_canDo.desc).map (fun d => d.parameters.length) = some 2) := ⟨(z_gd 46 (by decide +kernel) rfl), (z_gd 544 rfl rfl), by decide +kernel, by decide +kernel, by decide +kernel⟩
theorem yi_X1_canDo : Cond.instanceMethod yX1_canDo ∈ z_good := (z_gd 542 (by decide +kernel) rfl)
theorem yv_X1_canDo : Cond.selects yX1_canDo.cls yX1_canDo yX1_canDo ∈ z_good := (z_gd 543 (by decide +kernel) rfl)
theorem mv_X11_192 : z_MV RX11 192 1 yX1_canDo cX1_canDo 3 (some .boolean) 2 := ⟨⟨Or.inl (z_gd 541 (by decide +kernel) rfl), yb_X1_canDo⟩, yi_X1_canDo, yv_X1_canDo, by decide, rfl, by decide⟩
set_option maxRecDepth 20000 in
theorem yb_X7_markDone : Cond.initialized yX7_markDone.cls ∈ z_good ∧ Cond.code yX7_markDone cX7_markDone 3 none ∈ z_good ∧ (yX7_markDone.cls ≠ "java/lang/invoke/MethodHandle" ∧ yX7_markDone.cls ≠ "java/lang/invoke/VarHandle" ∧ (parseMethodDescriptor yX7_markDone.desc).map (fun d => d.parameters.length) = some 2) := ⟨(z_gd 38 (by decide +kernel) rfl), (z_gd 548 rfl rfl), by decide +kernel, by decide +kernel, by decide +kernel⟩
theorem yi_X7_markDone : Cond.instanceMethod yX7_markDone ∈ z_good := (z_gd 546 (by decide +kernel) rfl)
theorem yv_X7_markDone : Cond.selects yX7_markDone.cls yX7_markDone yX7_markDone ∈ z_good := (z_gd 547 (by decide +kernel) rfl)
theorem mv_X11_196 : z_MV RX11 196 7 yX7_markDone cX7_markDone 3 none 2 := ⟨⟨Or.inl (z_gd 545 (by decide +kernel) rfl), yb_X7_markDone⟩, yi_X7_markDone, yv_X7_markDone, by decide, rfl, by decide⟩
set_option maxRecDepth 20000 in
theorem yb_X11_loan : Cond.initialized yX11_loan.cls ∈ z_good ∧ Cond.code yX11_loan cX11_loan 3 (some .int) ∈ z_good ∧ (yX11_loan.cls ≠ "java/lang/invoke/MethodHandle" ∧ yX11_loan.cls ≠ "java/lang/invoke/VarHandle" ∧ (parseMethodDescriptor yX11_loan.desc).map (fun d => d.parameters.length) = some 2) := ⟨(z_gd 36 (by decide +kernel) rfl), (z_gd 552 rfl rfl), by decide +kernel, by decide +kernel, by decide +kernel⟩
theorem yi_X11_loan : Cond.instanceMethod yX11_loan ∈ z_good := (z_gd 550 (by decide +kernel) rfl)
theorem yv_X11_loan : Cond.selects yX11_loan.cls yX11_loan yX11_loan ∈ z_good := (z_gd 551 (by decide +kernel) rfl)
theorem mv_L_63 : z_MV RL 63 11 yX11_loan cX11_loan 3 (some .int) 2 := ⟨⟨Or.inl (z_gd 549 (by decide +kernel) rfl), yb_X11_loan⟩, yi_X11_loan, yv_X11_loan, by decide, rfl, by decide⟩
set_option maxRecDepth 20000 in
theorem yb_X7_addLoan : Cond.initialized yX7_addLoan.cls ∈ z_good ∧ Cond.code yX7_addLoan cX7_addLoan 2 none ∈ z_good ∧ (yX7_addLoan.cls ≠ "java/lang/invoke/MethodHandle" ∧ yX7_addLoan.cls ≠ "java/lang/invoke/VarHandle" ∧ (parseMethodDescriptor yX7_addLoan.desc).map (fun d => d.parameters.length) = some 1) := ⟨(z_gd 38 (by decide +kernel) rfl), (z_gd 556 rfl rfl), by decide +kernel, by decide +kernel, by decide +kernel⟩
theorem yi_X7_addLoan : Cond.instanceMethod yX7_addLoan ∈ z_good := (z_gd 554 (by decide +kernel) rfl)
theorem yv_X7_addLoan : Cond.selects yX7_addLoan.cls yX7_addLoan yX7_addLoan ∈ z_good := (z_gd 555 (by decide +kernel) rfl)
theorem mv_X11_199 : z_MV RX11 199 7 yX7_addLoan cX7_addLoan 2 none 1 := ⟨⟨Or.inl (z_gd 553 (by decide +kernel) rfl), yb_X7_addLoan⟩, yi_X7_addLoan, yv_X7_addLoan, by decide, rfl, by decide⟩
set_option maxRecDepth 20000 in
theorem yb_X11_back : Cond.initialized yX11_back.cls ∈ z_good ∧ Cond.code yX11_back cX11_back 1 (some .int) ∈ z_good ∧ (yX11_back.cls ≠ "java/lang/invoke/MethodHandle" ∧ yX11_back.cls ≠ "java/lang/invoke/VarHandle" ∧ (parseMethodDescriptor yX11_back.desc).map (fun d => d.parameters.length) = some 0) := ⟨(z_gd 36 (by decide +kernel) rfl), (z_gd 560 rfl rfl), by decide +kernel, by decide +kernel, by decide +kernel⟩
theorem yi_X11_back : Cond.instanceMethod yX11_back ∈ z_good := (z_gd 558 (by decide +kernel) rfl)
theorem yv_X11_back : Cond.selects yX11_back.cls yX11_back yX11_back ∈ z_good := (z_gd 559 (by decide +kernel) rfl)
theorem mv_L_68 : z_MV RL 68 11 yX11_back cX11_back 1 (some .int) 0 := ⟨⟨Or.inl (z_gd 557 (by decide +kernel) rfl), yb_X11_back⟩, yi_X11_back, yv_X11_back, by decide, rfl, by decide⟩
set_option maxRecDepth 20000 in
theorem yb_X7_owedForFirstLoan : Cond.initialized yX7_owedForFirstLoan.cls ∈ z_good ∧ Cond.code yX7_owedForFirstLoan cX7_owedForFirstLoan 1 (some .int) ∈ z_good ∧ (yX7_owedForFirstLoan.cls ≠ "java/lang/invoke/MethodHandle" ∧ yX7_owedForFirstLoan.cls ≠ "java/lang/invoke/VarHandle" ∧ (parseMethodDescriptor yX7_owedForFirstLoan.desc).map (fun d => d.parameters.length) = some 0) := ⟨(z_gd 38 (by decide +kernel) rfl), (z_gd 564 rfl rfl), by decide +kernel, by decide +kernel, by decide +kernel⟩
theorem yi_X7_owedForFirstLoan : Cond.instanceMethod yX7_owedForFirstLoan ∈ z_good := (z_gd 562 (by decide +kernel) rfl)
theorem yv_X7_owedForFirstLoan : Cond.selects yX7_owedForFirstLoan.cls yX7_owedForFirstLoan yX7_owedForFirstLoan ∈ z_good := (z_gd 563 (by decide +kernel) rfl)
theorem mv_X11_202 : z_MV RX11 202 7 yX7_owedForFirstLoan cX7_owedForFirstLoan 1 (some .int) 0 := ⟨⟨Or.inl (z_gd 561 (by decide +kernel) rfl), yb_X7_owedForFirstLoan⟩, yi_X7_owedForFirstLoan, yv_X7_owedForFirstLoan, by decide, rfl, by decide⟩
set_option maxRecDepth 20000 in
theorem yb_X7_giveFirstLoanBack : Cond.initialized yX7_giveFirstLoanBack.cls ∈ z_good ∧ Cond.code yX7_giveFirstLoanBack cX7_giveFirstLoanBack 2 none ∈ z_good ∧ (yX7_giveFirstLoanBack.cls ≠ "java/lang/invoke/MethodHandle" ∧ yX7_giveFirstLoanBack.cls ≠ "java/lang/invoke/VarHandle" ∧ (parseMethodDescriptor yX7_giveFirstLoanBack.desc).map (fun d => d.parameters.length) = some 0) := ⟨(z_gd 38 (by decide +kernel) rfl), (z_gd 568 rfl rfl), by decide +kernel, by decide +kernel, by decide +kernel⟩
theorem yi_X7_giveFirstLoanBack : Cond.instanceMethod yX7_giveFirstLoanBack ∈ z_good := (z_gd 566 (by decide +kernel) rfl)
