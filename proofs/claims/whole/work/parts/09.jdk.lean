set_option maxRecDepth 20000 in
theorem fp_X2_9 {M : MD} (h : M.2.2.2.2 = RX2) (hn : M.1.name = "<init>") : FP M 9 2 0 (.array .int) := ⟨_, _, _, _, cl_2, by decide, by rw [h]; exact in_lwg 72 rfl rfl, rfl, Or.inr ⟨rfl, hn, h.symm⟩⟩
set_option maxRecDepth 20000 in
theorem fp_X2_15 {M : MD} (h : M.2.2.2.2 = RX2) (hn : M.1.name = "<init>") : FP M 15 2 1 (.array .int) := ⟨_, _, _, _, cl_2, by decide, by rw [h]; exact in_lwg 76 rfl rfl, rfl, Or.inr ⟨rfl, hn, h.symm⟩⟩
set_option maxRecDepth 20000 in
theorem fp_X2_18 {M : MD} (h : M.2.2.2.2 = RX2) (hn : M.1.name = "<init>") : FP M 18 2 2 (.array .int) := ⟨_, _, _, _, cl_2, by decide, by rw [h]; exact in_lwg 79 rfl rfl, rfl, Or.inr ⟨rfl, hn, h.symm⟩⟩
set_option maxRecDepth 20000 in
theorem fp_X2_21 {M : MD} (h : M.2.2.2.2 = RX2) (hn : M.1.name = "<init>") : FP M 21 2 3 (.array .int) := ⟨_, _, _, _, cl_2, by decide, by rw [h]; exact in_lwg 82 rfl rfl, rfl, Or.inr ⟨rfl, hn, h.symm⟩⟩
set_option maxRecDepth 20000 in
theorem fp_X2_24 {M : MD} (h : M.2.2.2.2 = RX2) (hn : M.1.name = "<init>") : FP M 24 2 4 (.array .int) := ⟨_, _, _, _, cl_2, by decide, by rw [h]; exact in_lwg 85 rfl rfl, rfl, Or.inr ⟨rfl, hn, h.symm⟩⟩
set_option maxRecDepth 20000 in
theorem fp_X2_27 {M : MD} (h : M.2.2.2.2 = RX2) (hn : M.1.name = "<init>") : FP M 27 2 5 (.array .int) := ⟨_, _, _, _, cl_2, by decide, by rw [h]; exact in_lwg 89 rfl rfl, rfl, Or.inr ⟨rfl, hn, h.symm⟩⟩
set_option maxRecDepth 20000 in
theorem fp_X2_30 {M : MD} (h : M.2.2.2.2 = RX2) (hn : M.1.name = "<init>") : FP M 30 2 6 (.array .int) := ⟨_, _, _, _, cl_2, by decide, by rw [h]; exact in_lwg 93 rfl rfl, rfl, Or.inr ⟨rfl, hn, h.symm⟩⟩
set_option maxRecDepth 20000 in
theorem fp_X2_33 {M : MD} (h : M.2.2.2.2 = RX2) (hn : M.1.name = "<init>") : FP M 33 2 7 (.array .int) := ⟨_, _, _, _, cl_2, by decide, by rw [h]; exact in_lwg 96 rfl rfl, rfl, Or.inr ⟨rfl, hn, h.symm⟩⟩
set_option maxRecDepth 20000 in
theorem fp_X2_36 {M : MD} (h : M.2.2.2.2 = RX2) (hn : M.1.name = "<init>") : FP M 36 2 8 (.array .int) := ⟨_, _, _, _, cl_2, by decide, by rw [h]; exact in_lwg 99 rfl rfl, rfl, Or.inr ⟨rfl, hn, h.symm⟩⟩
set_option maxRecDepth 20000 in
theorem fp_X2_39 {M : MD} (h : M.2.2.2.2 = RX2) (hn : M.1.name = "<init>") : FP M 39 2 9 (.array .int) := ⟨_, _, _, _, cl_2, by decide, by rw [h]; exact in_lwg 102 rfl rfl, rfl, Or.inr ⟨rfl, hn, h.symm⟩⟩
set_option maxRecDepth 20000 in
theorem fp_X2_42 {M : MD} (h : M.2.2.2.2 = RX2) : FP M 42 2 10 .int := ⟨_, _, _, _, cl_2, by decide, by rw [h]; exact in_lwg 104 rfl rfl, rfl, Or.inl rfl⟩
set_option maxRecDepth 20000 in
theorem fp_X0_58 {M : MD} (h : M.2.2.2.2 = RX0) : FP M 58 2 10 .int := ⟨_, _, _, _, cl_2, by decide, by rw [h]; exact in_lwg 105 rfl rfl, rfl, Or.inl rfl⟩
set_option maxRecDepth 20000 in
theorem fp_X4_95 {M : MD} (h : M.2.2.2.2 = RX4) : FP M 95 2 10 .int := ⟨_, _, _, _, cl_2, by decide, by rw [h]; exact in_lwg 106 rfl rfl, rfl, Or.inl rfl⟩
set_option maxRecDepth 20000 in
theorem fp_X1_88 {M : MD} (h : M.2.2.2.2 = RX1) : FP M 88 2 10 .int := ⟨_, _, _, _, cl_2, by decide, by rw [h]; exact in_lwg 107 rfl rfl, rfl, Or.inl rfl⟩
set_option maxRecDepth 20000 in
theorem fp_X6_225 {M : MD} (h : M.2.2.2.2 = RX6) : FP M 225 2 10 .int := ⟨_, _, _, _, cl_2, by decide, by rw [h]; exact in_lwg 108 rfl rfl, rfl, Or.inl rfl⟩
set_option maxRecDepth 20000 in
theorem fp_X5_9 {M : MD} (h : M.2.2.2.2 = RX5) (hn : M.1.name = "<init>") : FP M 9 5 0 (.array .int) := ⟨_, _, _, _, cl_5, by decide, by rw [h]; exact in_lwg 146 rfl rfl, rfl, Or.inr ⟨rfl, hn, h.symm⟩⟩
set_option maxRecDepth 20000 in
theorem fp_X5_19 {M : MD} (h : M.2.2.2.2 = RX5) : FP M 19 5 1 .int := ⟨_, _, _, _, cl_5, by decide, by rw [h]; exact in_lwg 149 rfl rfl, rfl, Or.inl rfl⟩
set_option maxRecDepth 20000 in
theorem fp_X4_76 {M : MD} (h : M.2.2.2.2 = RX4) : FP M 76 5 1 .int := ⟨_, _, _, _, cl_5, by decide, by rw [h]; exact in_lwg 150 rfl rfl, rfl, Or.inl rfl⟩
set_option maxRecDepth 20000 in
theorem fp_X3_65 {M : MD} (h : M.2.2.2.2 = RX3) : FP M 65 5 1 .int := ⟨_, _, _, _, cl_5, by decide, by rw [h]; exact in_lwg 151 rfl rfl, rfl, Or.inl rfl⟩
set_option maxRecDepth 20000 in
theorem fp_X6_132 {M : MD} (h : M.2.2.2.2 = RX6) : FP M 132 5 1 .int := ⟨_, _, _, _, cl_5, by decide, by rw [h]; exact in_lwg 152 rfl rfl, rfl, Or.inl rfl⟩
set_option maxRecDepth 20000 in
theorem fp_X4_54 {M : MD} (h : M.2.2.2.2 = RX4) : FP M 54 5 2 .int := ⟨_, _, _, _, cl_5, by decide, by rw [h]; exact in_lwg 153 rfl rfl, rfl, Or.inl rfl⟩
set_option maxRecDepth 20000 in
theorem fp_X3_51 {M : MD} (h : M.2.2.2.2 = RX3) : FP M 51 5 2 .int := ⟨_, _, _, _, cl_5, by decide, by rw [h]; exact in_lwg 154 rfl rfl, rfl, Or.inl rfl⟩
set_option maxRecDepth 20000 in
theorem fp_X5_43 {M : MD} (h : M.2.2.2.2 = RX5) : FP M 43 5 2 .int := ⟨_, _, _, _, cl_5, by decide, by rw [h]; exact in_lwg 155 rfl rfl, rfl, Or.inl rfl⟩
set_option maxRecDepth 20000 in
theorem fp_X3_48 {M : MD} (h : M.2.2.2.2 = RX3) : FP M 48 5 3 .int := ⟨_, _, _, _, cl_5, by decide, by rw [h]; exact in_lwg 156 rfl rfl, rfl, Or.inl rfl⟩
set_option maxRecDepth 20000 in
theorem fp_X5_46 {M : MD} (h : M.2.2.2.2 = RX5) : FP M 46 5 3 .int := ⟨_, _, _, _, cl_5, by decide, by rw [h]; exact in_lwg 157 rfl rfl, rfl, Or.inl rfl⟩
set_option maxRecDepth 20000 in
theorem fp_X5_30 {M : MD} (h : M.2.2.2.2 = RX5) : FP M 30 5 4 .int := ⟨_, _, _, _, cl_5, by decide, by rw [h]; exact in_lwg 158 rfl rfl, rfl, Or.inl rfl⟩
set_option maxRecDepth 20000 in
theorem fp_X6_136 {M : MD} (h : M.2.2.2.2 = RX6) : FP M 136 5 4 .int := ⟨_, _, _, _, cl_5, by decide, by rw [h]; exact in_lwg 159 rfl rfl, rfl, Or.inl rfl⟩
set_option maxRecDepth 20000 in
theorem fp_X5_49 {M : MD} (h : M.2.2.2.2 = RX5) : FP M 49 5 5 .int := ⟨_, _, _, _, cl_5, by decide, by rw [h]; exact in_lwg 160 rfl rfl, rfl, Or.inl rfl⟩
set_option maxRecDepth 20000 in
theorem fp_X6_144 {M : MD} (h : M.2.2.2.2 = RX6) : FP M 144 5 5 .int := ⟨_, _, _, _, cl_5, by decide, by rw [h]; exact in_lwg 161 rfl rfl, rfl, Or.inl rfl⟩
set_option maxRecDepth 20000 in
theorem fp_X5_52 {M : MD} (h : M.2.2.2.2 = RX5) : FP M 52 5 6 .int := ⟨_, _, _, _, cl_5, by decide, by rw [h]; exact in_lwg 162 rfl rfl, rfl, Or.inl rfl⟩
set_option maxRecDepth 20000 in
theorem fp_X3_71 {M : MD} (h : M.2.2.2.2 = RX3) : FP M 71 5 6 .int := ⟨_, _, _, _, cl_5, by decide, by rw [h]; exact in_lwg 163 rfl rfl, rfl, Or.inl rfl⟩
set_option maxRecDepth 20000 in
theorem fp_X6_142 {M : MD} (h : M.2.2.2.2 = RX6) : FP M 142 5 6 .int := ⟨_, _, _, _, cl_5, by decide, by rw [h]; exact in_lwg 164 rfl rfl, rfl, Or.inl rfl⟩
set_option maxRecDepth 20000 in
theorem fp_X1_59 {M : MD} (h : M.2.2.2.2 = RX1) : FP M 59 5 7 .int := ⟨_, _, _, _, cl_5, by decide, by rw [h]; exact in_lwg 165 rfl rfl, rfl, Or.inl rfl⟩
set_option maxRecDepth 20000 in
theorem fp_X5_55 {M : MD} (h : M.2.2.2.2 = RX5) : FP M 55 5 7 .int := ⟨_, _, _, _, cl_5, by decide, by rw [h]; exact in_lwg 166 rfl rfl, rfl, Or.inl rfl⟩
set_option maxRecDepth 20000 in
theorem fp_X3_45 {M : MD} (h : M.2.2.2.2 = RX3) : FP M 45 5 8 .boolean := ⟨_, _, _, _, cl_5, by decide, by rw [h]; exact in_lwg 167 rfl rfl, rfl, Or.inl rfl⟩
set_option maxRecDepth 20000 in
theorem fp_X5_58 {M : MD} (h : M.2.2.2.2 = RX5) : FP M 58 5 8 .boolean := ⟨_, _, _, _, cl_5, by decide, by rw [h]; exact in_lwg 168 rfl rfl, rfl, Or.inl rfl⟩
set_option maxRecDepth 20000 in
theorem fp_X6_147 {M : MD} (h : M.2.2.2.2 = RX6) : FP M 147 5 8 .boolean := ⟨_, _, _, _, cl_5, by decide, by rw [h]; exact in_lwg 169 rfl rfl, rfl, Or.inl rfl⟩
set_option maxRecDepth 20000 in
theorem fp_X5_15 {M : MD} (h : M.2.2.2.2 = RX5) : FP M 15 5 9 .boolean := ⟨_, _, _, _, cl_5, by decide, by rw [h]; exact in_lwg 170 rfl rfl, rfl, Or.inl rfl⟩
set_option maxRecDepth 20000 in
theorem fp_X3_41 {M : MD} (h : M.2.2.2.2 = RX3) : FP M 41 5 9 .boolean := ⟨_, _, _, _, cl_5, by decide, by rw [h]; exact in_lwg 171 rfl rfl, rfl, Or.inl rfl⟩
set_option maxRecDepth 20000 in
theorem fp_X3_24 {M : MD} (h : M.2.2.2.2 = RX3) (hn : M.1.name = "<init>") : FP M 24 3 0 (.object "ShootingDays$Film") := ⟨_, _, _, _, cl_3, by decide, by rw [h]; exact in_lwg 193 rfl rfl, rfl, Or.inr ⟨rfl, hn, h.symm⟩⟩
set_option maxRecDepth 20000 in
theorem fp_X3_11 {M : MD} (h : M.2.2.2.2 = RX3) (hn : M.1.name = "<init>") : FP M 11 3 1 (.array (.object "ShootingDays$Row")) := ⟨_, _, _, _, cl_3, by decide, by rw [h]; exact in_lwg 194 rfl rfl, rfl, Or.inr ⟨rfl, hn, h.symm⟩⟩
set_option maxRecDepth 20000 in
theorem fp_X3_17 {M : MD} (h : M.2.2.2.2 = RX3) (hn : M.1.name = "<init>") : FP M 17 3 2 (.array .int) := ⟨_, _, _, _, cl_3, by decide, by rw [h]; exact in_lwg 198 rfl rfl, rfl, Or.inr ⟨rfl, hn, h.symm⟩⟩
set_option maxRecDepth 20000 in
theorem fp_X3_21 {M : MD} (h : M.2.2.2.2 = RX3) (hn : M.1.name = "<init>") : FP M 21 3 3 (.array .int) := ⟨_, _, _, _, cl_3, by decide, by rw [h]; exact in_lwg 200 rfl rfl, rfl, Or.inr ⟨rfl, hn, h.symm⟩⟩
set_option maxRecDepth 20000 in
theorem fp_X3_29 {M : MD} (h : M.2.2.2.2 = RX3) : FP M 29 3 4 .int := ⟨_, _, _, _, cl_3, by decide, by rw [h]; exact in_lwg 202 rfl rfl, rfl, Or.inl rfl⟩
set_option maxRecDepth 20000 in
theorem fp_X1_39 {M : MD} (h : M.2.2.2.2 = RX1) : FP M 39 3 4 .int := ⟨_, _, _, _, cl_3, by decide, by rw [h]; exact in_lwg 203 rfl rfl, rfl, Or.inl rfl⟩
set_option maxRecDepth 20000 in
theorem fp_X4_103 {M : MD} (h : M.2.2.2.2 = RX4) : FP M 103 3 4 .int := ⟨_, _, _, _, cl_3, by decide, by rw [h]; exact in_lwg 204 rfl rfl, rfl, Or.inl rfl⟩
set_option maxRecDepth 20000 in
theorem fp_X6_204 {M : MD} (h : M.2.2.2.2 = RX6) : FP M 204 3 4 .int := ⟨_, _, _, _, cl_3, by decide, by rw [h]; exact in_lwg 205 rfl rfl, rfl, Or.inl rfl⟩
set_option maxRecDepth 20000 in
theorem fp_X1_9 {M : MD} (h : M.2.2.2.2 = RX1) (hn : M.1.name = "<init>") : FP M 9 1 0 (.object "ShootingDays$Film") := ⟨_, _, _, _, cl_1, by decide, by rw [h]; exact in_lwg 223 rfl rfl, rfl, Or.inr ⟨rfl, hn, h.symm⟩⟩
set_option maxRecDepth 20000 in
theorem fp_X1_15 {M : MD} (h : M.2.2.2.2 = RX1) (hn : M.1.name = "<init>") : FP M 15 1 1 (.object "ShootingDays$Plan") := ⟨_, _, _, _, cl_1, by decide, by rw [h]; exact in_lwg 224 rfl rfl, rfl, Or.inr ⟨rfl, hn, h.symm⟩⟩
set_option maxRecDepth 20000 in
theorem fp_X0_21 {M : MD} (h : M.2.2.2.2 = RX0) (hn : M.1.name = "<init>") : FP M 21 0 0 (.object "ShootingDays$Film") := ⟨_, _, _, _, cl_0, by decide, by rw [h]; exact in_lwg 243 rfl rfl, rfl, Or.inr ⟨rfl, hn, h.symm⟩⟩
set_option maxRecDepth 20000 in
theorem fp_X0_9 {M : MD} (h : M.2.2.2.2 = RX0) (hn : M.1.name = "<init>") : FP M 9 0 1 (.array .int) := ⟨_, _, _, _, cl_0, by decide, by rw [h]; exact in_lwg 244 rfl rfl, rfl, Or.inr ⟨rfl, hn, h.symm⟩⟩
set_option maxRecDepth 20000 in
theorem fp_X0_15 {M : MD} (h : M.2.2.2.2 = RX0) (hn : M.1.name = "<init>") : FP M 15 0 2 (.array .int) := ⟨_, _, _, _, cl_0, by decide, by rw [h]; exact in_lwg 245 rfl rfl, rfl, Or.inr ⟨rfl, hn, h.symm⟩⟩
set_option maxRecDepth 20000 in
theorem fp_X0_18 {M : MD} (h : M.2.2.2.2 = RX0) (hn : M.1.name = "<init>") : FP M 18 0 3 (.array .int) := ⟨_, _, _, _, cl_0, by decide, by rw [h]; exact in_lwg 246 rfl rfl, rfl, Or.inr ⟨rfl, hn, h.symm⟩⟩
set_option maxRecDepth 20000 in
theorem fp_X0_45 {M : MD} (h : M.2.2.2.2 = RX0) : FP M 45 0 4 .int := ⟨_, _, _, _, cl_0, by decide, by rw [h]; exact in_lwg 247 rfl rfl, rfl, Or.inl rfl⟩
set_option maxRecDepth 20000 in
theorem fp_X0_55 {M : MD} (h : M.2.2.2.2 = RX0) : FP M 55 0 5 .int := ⟨_, _, _, _, cl_0, by decide, by rw [h]; exact in_lwg 248 rfl rfl, rfl, Or.inl rfl⟩
set_option maxRecDepth 20000 in
theorem fp_X0_32 {M : MD} (h : M.2.2.2.2 = RX0) : FP M 32 0 6 .int := ⟨_, _, _, _, cl_0, by decide, by rw [h]; exact in_lwg 249 rfl rfl, rfl, Or.inl rfl⟩
set_option maxRecDepth 20000 in
theorem fp_X4_24 {M : MD} (h : M.2.2.2.2 = RX4) (hn : M.1.name = "<init>") : FP M 24 4 0 (.object "ShootingDays$Film") := ⟨_, _, _, _, cl_4, by decide, by rw [h]; exact in_lwg 265 rfl rfl, rfl, Or.inr ⟨rfl, hn, h.symm⟩⟩
set_option maxRecDepth 20000 in
theorem fp_X4_28 {M : MD} (h : M.2.2.2.2 = RX4) (hn : M.1.name = "<init>") : FP M 28 4 1 (.object "ShootingDays$Plan") := ⟨_, _, _, _, cl_4, by decide, by rw [h]; exact in_lwg 266 rfl rfl, rfl, Or.inr ⟨rfl, hn, h.symm⟩⟩
set_option maxRecDepth 20000 in
theorem fp_X4_32 {M : MD} (h : M.2.2.2.2 = RX4) (hn : M.1.name = "<init>") : FP M 32 4 2 (.object "ShootingDays$Bill") := ⟨_, _, _, _, cl_4, by decide, by rw [h]; exact in_lwg 267 rfl rfl, rfl, Or.inr ⟨rfl, hn, h.symm⟩⟩
set_option maxRecDepth 20000 in
theorem fp_X4_41 {M : MD} (h : M.2.2.2.2 = RX4) (hn : M.1.name = "<init>") : FP M 41 4 3 (.object "ShootingDays$Arranger") := ⟨_, _, _, _, cl_4, by decide, by rw [h]; exact in_lwg 268 rfl rfl, rfl, Or.inr ⟨rfl, hn, h.symm⟩⟩
set_option maxRecDepth 20000 in
theorem fp_X4_11 {M : MD} (h : M.2.2.2.2 = RX4) (hn : M.1.name = "<init>") : FP M 11 4 4 (.array (.object "ShootingDays$Row")) := ⟨_, _, _, _, cl_4, by decide, by rw [h]; exact in_lwg 269 rfl rfl, rfl, Or.inr ⟨rfl, hn, h.symm⟩⟩
set_option maxRecDepth 20000 in
theorem fp_X4_17 {M : MD} (h : M.2.2.2.2 = RX4) (hn : M.1.name = "<init>") : FP M 17 4 5 (.array .int) := ⟨_, _, _, _, cl_4, by decide, by rw [h]; exact in_lwg 270 rfl rfl, rfl, Or.inr ⟨rfl, hn, h.symm⟩⟩
set_option maxRecDepth 20000 in
theorem fp_X4_21 {M : MD} (h : M.2.2.2.2 = RX4) (hn : M.1.name = "<init>") : FP M 21 4 6 (.array .int) := ⟨_, _, _, _, cl_4, by decide, by rw [h]; exact in_lwg 271 rfl rfl, rfl, Or.inr ⟨rfl, hn, h.symm⟩⟩
set_option maxRecDepth 20000 in
theorem fp_X6_10 {M : MD} (h : M.2.2.2.2 = RX6) (hn : M.1.name = "<init>") : FP M 10 6 0 (.object "ShootingDays$Film") := ⟨_, _, _, _, cl_6, by decide, by rw [h]; exact in_lwg 287 rfl rfl, rfl, Or.inr ⟨rfl, hn, h.symm⟩⟩
set_option maxRecDepth 20000 in
theorem fp_X6_21 {M : MD} (h : M.2.2.2.2 = RX6) (hn : M.1.name = "<init>") : FP M 21 6 1 (.object "ShootingDays$Plan") := ⟨_, _, _, _, cl_6, by decide, by rw [h]; exact in_lwg 288 rfl rfl, rfl, Or.inr ⟨rfl, hn, h.symm⟩⟩
set_option maxRecDepth 20000 in
theorem fp_X6_30 {M : MD} (h : M.2.2.2.2 = RX6) (hn : M.1.name = "<init>") : FP M 30 6 2 (.object "ShootingDays$Bill") := ⟨_, _, _, _, cl_6, by decide, by rw [h]; exact in_lwg 289 rfl rfl, rfl, Or.inr ⟨rfl, hn, h.symm⟩⟩
set_option maxRecDepth 20000 in
theorem fp_X6_39 {M : MD} (h : M.2.2.2.2 = RX6) (hn : M.1.name = "<init>") : FP M 39 6 3 (.object "ShootingDays$Planner") := ⟨_, _, _, _, cl_6, by decide, by rw [h]; exact in_lwg 290 rfl rfl, rfl, Or.inr ⟨rfl, hn, h.symm⟩⟩
set_option maxRecDepth 20000 in
theorem fp_X7_84 {M : MD} (h : M.2.2.2.2 = RX7) : FP M 84 7 1 .int := ⟨_, _, _, _, cl_7, by decide, by rw [h]; exact in_lwg 680 rfl rfl, rfl, Or.inl rfl⟩
set_option maxRecDepth 20000 in
theorem fp_X7_7 {M : MD} (h : M.2.2.2.2 = RX7) (hn : M.1.name = "<init>") : FP M 7 7 2 (.array .int) := ⟨_, _, _, _, cl_7, by decide, by rw [h]; exact in_lwg 681 rfl rfl, rfl, Or.inr ⟨rfl, hn, h.symm⟩⟩
set_option maxRecDepth 20000 in
theorem fp_X7_13 {M : MD} (h : M.2.2.2.2 = RX7) (hn : M.1.name = "<init>") : FP M 13 7 3 (.array .int) := ⟨_, _, _, _, cl_7, by decide, by rw [h]; exact in_lwg 682 rfl rfl, rfl, Or.inr ⟨rfl, hn, h.symm⟩⟩
set_option maxRecDepth 20000 in
theorem fp_X7_16 {M : MD} (h : M.2.2.2.2 = RX7) (hn : M.1.name = "<init>") : FP M 16 7 4 (.array .int) := ⟨_, _, _, _, cl_7, by decide, by rw [h]; exact in_lwg 683 rfl rfl, rfl, Or.inr ⟨rfl, hn, h.symm⟩⟩
set_option maxRecDepth 20000 in
theorem fp_X7_19 {M : MD} (h : M.2.2.2.2 = RX7) (hn : M.1.name = "<init>") : FP M 19 7 5 (.array .boolean) := ⟨_, _, _, _, cl_7, by decide, by rw [h]; exact in_lwg 684 rfl rfl, rfl, Or.inr ⟨rfl, hn, h.symm⟩⟩
set_option maxRecDepth 20000 in
theorem fp_X7_23 {M : MD} (h : M.2.2.2.2 = RX7) (hn : M.1.name = "<init>") : FP M 23 7 6 (.array .int) := ⟨_, _, _, _, cl_7, by decide, by rw [h]; exact in_lwg 685 rfl rfl, rfl, Or.inr ⟨rfl, hn, h.symm⟩⟩
set_option maxRecDepth 20000 in
theorem fp_X7_26 {M : MD} (h : M.2.2.2.2 = RX7) (hn : M.1.name = "<init>") : FP M 26 7 7 (.array .int) := ⟨_, _, _, _, cl_7, by decide, by rw [h]; exact in_lwg 686 rfl rfl, rfl, Or.inr ⟨rfl, hn, h.symm⟩⟩
set_option maxRecDepth 20000 in
theorem fp_X7_29 {M : MD} (h : M.2.2.2.2 = RX7) (hn : M.1.name = "<init>") : FP M 29 7 8 (.array .int) := ⟨_, _, _, _, cl_7, by decide, by rw [h]; exact in_lwg 687 rfl rfl, rfl, Or.inr ⟨rfl, hn, h.symm⟩⟩
set_option maxRecDepth 20000 in
theorem fp_X7_32 {M : MD} (h : M.2.2.2.2 = RX7) (hn : M.1.name = "<init>") : FP M 32 7 9 (.array .int) := ⟨_, _, _, _, cl_7, by decide, by rw [h]; exact in_lwg 688 rfl rfl, rfl, Or.inr ⟨rfl, hn, h.symm⟩⟩
set_option maxRecDepth 20000 in
theorem fp_X7_35 {M : MD} (h : M.2.2.2.2 = RX7) (hn : M.1.name = "<init>") : FP M 35 7 10 (.array .int) := ⟨_, _, _, _, cl_7, by decide, by rw [h]; exact in_lwg 689 rfl rfl, rfl, Or.inr ⟨rfl, hn, h.symm⟩⟩
set_option maxRecDepth 20000 in
theorem fp_X7_38 {M : MD} (h : M.2.2.2.2 = RX7) (hn : M.1.name = "<init>") : FP M 38 7 11 (.array .int) := ⟨_, _, _, _, cl_7, by decide, by rw [h]; exact in_lwg 690 rfl rfl, rfl, Or.inr ⟨rfl, hn, h.symm⟩⟩
set_option maxRecDepth 20000 in
theorem fp_X7_41 {M : MD} (h : M.2.2.2.2 = RX7) (hn : M.1.name = "<init>") : FP M 41 7 12 (.array .int) := ⟨_, _, _, _, cl_7, by decide, by rw [h]; exact in_lwg 691 rfl rfl, rfl, Or.inr ⟨rfl, hn, h.symm⟩⟩
set_option maxRecDepth 20000 in
theorem fp_X7_91 {M : MD} (h : M.2.2.2.2 = RX7) : FP M 91 7 13 .int := ⟨_, _, _, _, cl_7, by decide, by rw [h]; exact in_lwg 692 rfl rfl, rfl, Or.inl rfl⟩
set_option maxRecDepth 20000 in
theorem fp_X7_44 {M : MD} (h : M.2.2.2.2 = RX7) (hn : M.1.name = "<init>") : FP M 44 7 14 (.array .int) := ⟨_, _, _, _, cl_7, by decide, by rw [h]; exact in_lwg 693 rfl rfl, rfl, Or.inr ⟨rfl, hn, h.symm⟩⟩
set_option maxRecDepth 20000 in
theorem fp_X7_47 {M : MD} (h : M.2.2.2.2 = RX7) (hn : M.1.name = "<init>") : FP M 47 7 15 (.array .int) := ⟨_, _, _, _, cl_7, by decide, by rw [h]; exact in_lwg 694 rfl rfl, rfl, Or.inr ⟨rfl, hn, h.symm⟩⟩
set_option maxRecDepth 20000 in
theorem fp_X7_50 {M : MD} (h : M.2.2.2.2 = RX7) (hn : M.1.name = "<init>") : FP M 50 7 16 (.array .int) := ⟨_, _, _, _, cl_7, by decide, by rw [h]; exact in_lwg 695 rfl rfl, rfl, Or.inr ⟨rfl, hn, h.symm⟩⟩
set_option maxRecDepth 20000 in
theorem fp_X7_53 {M : MD} (h : M.2.2.2.2 = RX7) (hn : M.1.name = "<init>") : FP M 53 7 17 (.array .int) := ⟨_, _, _, _, cl_7, by decide, by rw [h]; exact in_lwg 696 rfl rfl, rfl, Or.inr ⟨rfl, hn, h.symm⟩⟩
set_option maxRecDepth 20000 in
theorem fp_X7_56 {M : MD} (h : M.2.2.2.2 = RX7) (hn : M.1.name = "<init>") : FP M 56 7 18 (.array .int) := ⟨_, _, _, _, cl_7, by decide, by rw [h]; exact in_lwg 697 rfl rfl, rfl, Or.inr ⟨rfl, hn, h.symm⟩⟩
set_option maxRecDepth 20000 in
theorem fp_X7_59 {M : MD} (h : M.2.2.2.2 = RX7) (hn : M.1.name = "<init>") : FP M 59 7 19 (.array .int) := ⟨_, _, _, _, cl_7, by decide, by rw [h]; exact in_lwg 698 rfl rfl, rfl, Or.inr ⟨rfl, hn, h.symm⟩⟩
set_option maxRecDepth 20000 in
theorem fp_X7_129 {M : MD} (h : M.2.2.2.2 = RX7) : FP M 129 7 20 .int := ⟨_, _, _, _, cl_7, by decide, by rw [h]; exact in_lwg 699 rfl rfl, rfl, Or.inl rfl⟩
set_option maxRecDepth 20000 in
theorem fp_X7_62 {M : MD} (h : M.2.2.2.2 = RX7) (hn : M.1.name = "<init>") : FP M 62 7 21 (.array .int) := ⟨_, _, _, _, cl_7, by decide, by rw [h]; exact in_lwg 700 rfl rfl, rfl, Or.inr ⟨rfl, hn, h.symm⟩⟩
set_option maxRecDepth 20000 in
theorem fp_X7_65 {M : MD} (h : M.2.2.2.2 = RX7) (hn : M.1.name = "<init>") : FP M 65 7 22 (.array .int) := ⟨_, _, _, _, cl_7, by decide, by rw [h]; exact in_lwg 701 rfl rfl, rfl, Or.inr ⟨rfl, hn, h.symm⟩⟩
set_option maxRecDepth 20000 in
theorem fp_X7_68 {M : MD} (h : M.2.2.2.2 = RX7) (hn : M.1.name = "<init>") : FP M 68 7 23 (.array .int) := ⟨_, _, _, _, cl_7, by decide, by rw [h]; exact in_lwg 702 rfl rfl, rfl, Or.inr ⟨rfl, hn, h.symm⟩⟩
set_option maxRecDepth 20000 in
theorem fp_X7_71 {M : MD} (h : M.2.2.2.2 = RX7) (hn : M.1.name = "<init>") : FP M 71 7 24 (.array .int) := ⟨_, _, _, _, cl_7, by decide, by rw [h]; exact in_lwg 703 rfl rfl, rfl, Or.inr ⟨rfl, hn, h.symm⟩⟩
set_option maxRecDepth 20000 in
theorem fp_X7_74 {M : MD} (h : M.2.2.2.2 = RX7) (hn : M.1.name = "<init>") : FP M 74 7 25 (.array .int) := ⟨_, _, _, _, cl_7, by decide, by rw [h]; exact in_lwg 704 rfl rfl, rfl, Or.inr ⟨rfl, hn, h.symm⟩⟩
set_option maxRecDepth 20000 in
theorem fp_X7_77 {M : MD} (h : M.2.2.2.2 = RX7) (hn : M.1.name = "<init>") : FP M 77 7 26 (.array .int) := ⟨_, _, _, _, cl_7, by decide, by rw [h]; exact in_lwg 705 rfl rfl, rfl, Or.inr ⟨rfl, hn, h.symm⟩⟩
set_option maxRecDepth 20000 in
theorem fp_X7_201 {M : MD} (h : M.2.2.2.2 = RX7) : FP M 201 7 27 .int := ⟨_, _, _, _, cl_7, by decide, by rw [h]; exact in_lwg 706 rfl rfl, rfl, Or.inl rfl⟩
theorem dJ_max_0 : decode cJ_max 0 = .ok (.iload_n 0, 1) := by decide +kernel
theorem dJ_max_1 : decode cJ_max 1 = .ok (.iload_n 1, 1) := by decide +kernel
theorem dJ_max_2 : decode cJ_max 2 = .ok (.if_icmp .lt 7, 3) := by decide +kernel
theorem dJ_max_5 : decode cJ_max 5 = .ok (.iload_n 0, 1) := by decide +kernel
theorem dJ_max_6 : decode cJ_max 6 = .ok (.goto 4, 3) := by decide +kernel
theorem dJ_max_9 : decode cJ_max 9 = .ok (.iload_n 1, 1) := by decide +kernel
theorem dJ_max_10 : decode cJ_max 10 = .ok (.ireturn, 1) := by decide +kernel
theorem dJ_bitCount_0 : decode cJ_bitCount 0 = .ok (.iload_n 0, 1) := by decide +kernel
theorem dJ_bitCount_1 : decode cJ_bitCount 1 = .ok (.iload_n 0, 1) := by decide +kernel
theorem dJ_bitCount_2 : decode cJ_bitCount 2 = .ok (.iconst 1, 1) := by decide +kernel
theorem dJ_bitCount_3 : decode cJ_bitCount 3 = .ok (.iushr, 1) := by decide +kernel
theorem dJ_bitCount_4 : decode cJ_bitCount 4 = .ok (.ldc_w 265, 3) := by decide +kernel
theorem dJ_bitCount_7 : decode cJ_bitCount 7 = .ok (.iand, 1) := by decide +kernel
theorem dJ_bitCount_8 : decode cJ_bitCount 8 = .ok (.isub, 1) := by decide +kernel
theorem dJ_bitCount_9 : decode cJ_bitCount 9 = .ok (.istore_n 0, 1) := by decide +kernel
theorem dJ_bitCount_10 : decode cJ_bitCount 10 = .ok (.iload_n 0, 1) := by decide +kernel
theorem dJ_bitCount_11 : decode cJ_bitCount 11 = .ok (.ldc_w 266, 3) := by decide +kernel
theorem dJ_bitCount_14 : decode cJ_bitCount 14 = .ok (.iand, 1) := by decide +kernel
theorem dJ_bitCount_15 : decode cJ_bitCount 15 = .ok (.iload_n 0, 1) := by decide +kernel
theorem dJ_bitCount_16 : decode cJ_bitCount 16 = .ok (.iconst 2, 1) := by decide +kernel
theorem dJ_bitCount_17 : decode cJ_bitCount 17 = .ok (.iushr, 1) := by decide +kernel
theorem dJ_bitCount_18 : decode cJ_bitCount 18 = .ok (.ldc_w 266, 3) := by decide +kernel
theorem dJ_bitCount_21 : decode cJ_bitCount 21 = .ok (.iand, 1) := by decide +kernel
theorem dJ_bitCount_22 : decode cJ_bitCount 22 = .ok (.iadd, 1) := by decide +kernel
theorem dJ_bitCount_23 : decode cJ_bitCount 23 = .ok (.istore_n 0, 1) := by decide +kernel
theorem dJ_bitCount_24 : decode cJ_bitCount 24 = .ok (.iload_n 0, 1) := by decide +kernel
theorem dJ_bitCount_25 : decode cJ_bitCount 25 = .ok (.iload_n 0, 1) := by decide +kernel
theorem dJ_bitCount_26 : decode cJ_bitCount 26 = .ok (.iconst 4, 1) := by decide +kernel
theorem dJ_bitCount_27 : decode cJ_bitCount 27 = .ok (.iushr, 1) := by decide +kernel
theorem dJ_bitCount_28 : decode cJ_bitCount 28 = .ok (.iadd, 1) := by decide +kernel
theorem dJ_bitCount_29 : decode cJ_bitCount 29 = .ok (.ldc_w 267, 3) := by decide +kernel
theorem dJ_bitCount_32 : decode cJ_bitCount 32 = .ok (.iand, 1) := by decide +kernel
theorem dJ_bitCount_33 : decode cJ_bitCount 33 = .ok (.istore_n 0, 1) := by decide +kernel
theorem dJ_bitCount_34 : decode cJ_bitCount 34 = .ok (.iload_n 0, 1) := by decide +kernel
theorem dJ_bitCount_35 : decode cJ_bitCount 35 = .ok (.iload_n 0, 1) := by decide +kernel
theorem dJ_bitCount_36 : decode cJ_bitCount 36 = .ok (.bipush 8, 2) := by decide +kernel
theorem dJ_bitCount_38 : decode cJ_bitCount 38 = .ok (.iushr, 1) := by decide +kernel
theorem dJ_bitCount_39 : decode cJ_bitCount 39 = .ok (.iadd, 1) := by decide +kernel
theorem dJ_bitCount_40 : decode cJ_bitCount 40 = .ok (.istore_n 0, 1) := by decide +kernel
theorem dJ_bitCount_41 : decode cJ_bitCount 41 = .ok (.iload_n 0, 1) := by decide +kernel
theorem dJ_bitCount_42 : decode cJ_bitCount 42 = .ok (.iload_n 0, 1) := by decide +kernel
theorem dJ_bitCount_43 : decode cJ_bitCount 43 = .ok (.bipush 16, 2) := by decide +kernel
theorem dJ_bitCount_45 : decode cJ_bitCount 45 = .ok (.iushr, 1) := by decide +kernel
theorem dJ_bitCount_46 : decode cJ_bitCount 46 = .ok (.iadd, 1) := by decide +kernel
theorem dJ_bitCount_47 : decode cJ_bitCount 47 = .ok (.istore_n 0, 1) := by decide +kernel
theorem dJ_bitCount_48 : decode cJ_bitCount 48 = .ok (.iload_n 0, 1) := by decide +kernel
theorem dJ_bitCount_49 : decode cJ_bitCount 49 = .ok (.bipush 63, 2) := by decide +kernel
theorem dJ_bitCount_51 : decode cJ_bitCount 51 = .ok (.iand, 1) := by decide +kernel
theorem dJ_bitCount_52 : decode cJ_bitCount 52 = .ok (.ireturn, 1) := by decide +kernel
