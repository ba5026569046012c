/-! Links, printed. -/
set_option maxRecDepth 20000 in
theorem kd_SB : xa_Kd 0 ("StoneBoard", TX_SB, 8) := by
  refine ⟨rfl, ?_, ⟨ty_SB, by decide +kernel⟩, by decide +kernel⟩
  intro w hw
  obtain ⟨k, hk, rfl⟩ := List.mem_map.mp hw
  have hk : k < 8 := List.mem_range.mp hk
  rcases (show k = 0 ∨ k = 1 ∨ k = 2 ∨ k = 3 ∨ k = 4 ∨ k = 5 ∨ k = 6 ∨ k = 7 by omega) with rfl | rfl | rfl | rfl | rfl | rfl | rfl | rfl
  · exact (xa_m2 50 rfl rfl)
  · exact (xa_m2 52 rfl rfl)
  · exact (xa_m2 54 rfl rfl)
  · exact (xa_m2 56 rfl rfl)
  · exact (xa_m2 58 rfl rfl)
  · exact (xa_m2 60 rfl rfl)
  · exact (xa_m2 62 rfl rfl)
  · exact (xa_m2 64 rfl rfl)
set_option maxRecDepth 20000 in
theorem kd_Areas : xa_Kd 1 ("StoneBoard$Areas", TX_Areas, 5) := by
  refine ⟨rfl, ?_, ⟨ty_Areas, by decide +kernel⟩, by decide +kernel⟩
  intro w hw
  obtain ⟨k, hk, rfl⟩ := List.mem_map.mp hw
  have hk : k < 5 := List.mem_range.mp hk
  rcases (show k = 0 ∨ k = 1 ∨ k = 2 ∨ k = 3 ∨ k = 4 by omega) with rfl | rfl | rfl | rfl | rfl
  · exact (xa_m1 72 rfl rfl)
  · exact (xa_m1 74 rfl rfl)
  · exact (xa_m1 76 rfl rfl)
  · exact (xa_m1 78 rfl rfl)
  · exact (xa_m1 80 rfl rfl)
set_option maxRecDepth 20000 in
theorem kd_Chart : xa_Kd 2 ("StoneBoard$Chart", TX_Chart, 7) := by
  refine ⟨rfl, ?_, ⟨ty_Chart, by decide +kernel⟩, by decide +kernel⟩
  intro w hw
  obtain ⟨k, hk, rfl⟩ := List.mem_map.mp hw
  have hk : k < 7 := List.mem_range.mp hk
  rcases (show k = 0 ∨ k = 1 ∨ k = 2 ∨ k = 3 ∨ k = 4 ∨ k = 5 ∨ k = 6 by omega) with rfl | rfl | rfl | rfl | rfl | rfl | rfl
  · exact (xa_m1 141 rfl rfl)
  · exact (xa_m1 143 rfl rfl)
  · exact (xa_m1 145 rfl rfl)
  · exact (xa_m1 147 rfl rfl)
  · exact (xa_m1 149 rfl rfl)
  · exact (xa_m1 151 rfl rfl)
  · exact (xa_m1 153 rfl rfl)
set_option maxRecDepth 20000 in
theorem kd_Grid : xa_Kd 3 ("StoneBoard$Grid", TX_Grid, 2) := by
  refine ⟨rfl, ?_, ⟨ty_Grid, by decide +kernel⟩, by decide +kernel⟩
  intro w hw
  obtain ⟨k, hk, rfl⟩ := List.mem_map.mp hw
  have hk : k < 2 := List.mem_range.mp hk
  rcases (show k = 0 ∨ k = 1 by omega) with rfl | rfl
  · exact (xa_m1 47 rfl rfl)
  · exact (xa_m1 49 rfl rfl)
set_option maxRecDepth 20000 in
theorem kd_History : xa_Kd 4 ("StoneBoard$History", TX_History, 2) := by
  refine ⟨rfl, ?_, ⟨ty_History, by decide +kernel⟩, by decide +kernel⟩
  intro w hw
  obtain ⟨k, hk, rfl⟩ := List.mem_map.mp hw
  have hk : k < 2 := List.mem_range.mp hk
  rcases (show k = 0 ∨ k = 1 by omega) with rfl | rfl
  · exact (xa_m2 6 rfl rfl)
  · exact (xa_m2 8 rfl rfl)
set_option maxRecDepth 20000 in
theorem kd_Life : xa_Kd 5 ("StoneBoard$Life", TX_Life, 7) := by
  refine ⟨rfl, ?_, ⟨ty_Life, by decide +kernel⟩, by decide +kernel⟩
  intro w hw
  obtain ⟨k, hk, rfl⟩ := List.mem_map.mp hw
  have hk : k < 7 := List.mem_range.mp hk
  rcases (show k = 0 ∨ k = 1 ∨ k = 2 ∨ k = 3 ∨ k = 4 ∨ k = 5 ∨ k = 6 by omega) with rfl | rfl | rfl | rfl | rfl | rfl | rfl
  · exact (xa_m2 26 rfl rfl)
  · exact (xa_m2 28 rfl rfl)
  · exact (xa_m2 30 rfl rfl)
  · exact (xa_m2 32 rfl rfl)
  · exact (xa_m2 34 rfl rfl)
  · exact (xa_m2 36 rfl rfl)
  · exact (xa_m2 38 rfl rfl)
set_option maxRecDepth 20000 in
theorem kd_Pos : xa_Kd 6 ("StoneBoard$Position", TX_Pos, 7) := by
  refine ⟨rfl, ?_, ⟨ty_Pos, by decide +kernel⟩, by decide +kernel⟩
  intro w hw
  obtain ⟨k, hk, rfl⟩ := List.mem_map.mp hw
  have hk : k < 7 := List.mem_range.mp hk
  rcases (show k = 0 ∨ k = 1 ∨ k = 2 ∨ k = 3 ∨ k = 4 ∨ k = 5 ∨ k = 6 by omega) with rfl | rfl | rfl | rfl | rfl | rfl | rfl
  · exact (xa_m1 228 rfl rfl)
  · exact (xa_m1 230 rfl rfl)
  · exact (xa_m1 232 rfl rfl)
  · exact (xa_m1 234 rfl rfl)
  · exact (xa_m1 236 rfl rfl)
  · exact (xa_m1 238 rfl rfl)
  · exact (xa_m2 0 rfl rfl)
set_option maxRecDepth 20000 in
theorem kd_Trial : xa_Kd 7 ("StoneBoard$Trial", TX_Trial, 6) := by
  refine ⟨rfl, ?_, ⟨ty_Trial, by decide +kernel⟩, by decide +kernel⟩
  intro w hw
  obtain ⟨k, hk, rfl⟩ := List.mem_map.mp hw
  have hk : k < 6 := List.mem_range.mp hk
  rcases (show k = 0 ∨ k = 1 ∨ k = 2 ∨ k = 3 ∨ k = 4 ∨ k = 5 by omega) with rfl | rfl | rfl | rfl | rfl | rfl
  · exact (xa_m1 174 rfl rfl)
  · exact (xa_m1 176 rfl rfl)
  · exact (xa_m1 178 rfl rfl)
  · exact (xa_m1 180 rfl rfl)
  · exact (xa_m1 182 rfl rfl)
  · exact (xa_m1 184 rfl rfl)
set_option maxRecDepth 20000 in
theorem kd_Ref : xa_Kd 8 ("StoneBoardModel", TX_Ref, 24) := by
  refine ⟨rfl, ?_, ⟨ty_Ref, by decide +kernel⟩, by decide +kernel⟩
  intro w hw
  obtain ⟨k, hk, rfl⟩ := List.mem_map.mp hw
  have hk : k < 24 := List.mem_range.mp hk
  rcases (show k = 0 ∨ k = 1 ∨ k = 2 ∨ k = 3 ∨ k = 4 ∨ k = 5 ∨ k = 6 ∨ k = 7 ∨ k = 8 ∨ k = 9 ∨ k = 10 ∨ k = 11 ∨ k = 12 ∨ k = 13 ∨ k = 14 ∨ k = 15 ∨ k = 16 ∨ k = 17 ∨ k = 18 ∨ k = 19 ∨ k = 20 ∨ k = 21 ∨ k = 22 ∨ k = 23 by omega) with rfl | rfl | rfl | rfl | rfl | rfl | rfl | rfl | rfl | rfl | rfl | rfl | rfl | rfl | rfl | rfl | rfl | rfl | rfl | rfl | rfl | rfl | rfl | rfl
  · exact (xa_m4 49 rfl rfl)
  · exact (xa_m4 51 rfl rfl)
  · exact (xa_m4 53 rfl rfl)
  · exact (xa_m4 55 rfl rfl)
  · exact (xa_m4 57 rfl rfl)
  · exact (xa_m4 59 rfl rfl)
  · exact (xa_m4 61 rfl rfl)
  · exact (xa_m4 63 rfl rfl)
  · exact (xa_m4 65 rfl rfl)
  · exact (xa_m4 67 rfl rfl)
  · exact (xa_m4 69 rfl rfl)
  · exact (xa_m4 71 rfl rfl)
  · exact (xa_m4 73 rfl rfl)
  · exact (xa_m4 75 rfl rfl)
  · exact (xa_m4 77 rfl rfl)
  · exact (xa_m4 79 rfl rfl)
  · exact (xa_m4 81 rfl rfl)
  · exact (xa_m4 83 rfl rfl)
  · exact (xa_m4 85 rfl rfl)
  · exact (xa_m4 87 rfl rfl)
  · exact (xa_m4 89 rfl rfl)
  · exact (xa_m4 91 rfl rfl)
  · exact (xa_m4 93 rfl rfl)
  · exact (xa_m4 95 rfl rfl)
theorem f_Grid_9 : xa_FL "StoneBoard$Grid" 9 3 0 true (.int) := ⟨_, kd_Grid, (by decide), (xa_m1 40 rfl rfl), rfl, (by decide +kernel)⟩
theorem f_Areas_15 : xa_FL "StoneBoard$Areas" 15 3 0 true (.int) := ⟨_, kd_Grid, (by decide), (xa_m1 41 rfl rfl), rfl, (by decide +kernel)⟩
theorem f_Life_19 : xa_FL "StoneBoard$Life" 19 3 0 true (.int) := ⟨_, kd_Grid, (by decide), (xa_m1 42 rfl rfl), rfl, (by decide +kernel)⟩
theorem f_Trial_23 : xa_FL "StoneBoard$Trial" 23 3 0 true (.int) := ⟨_, kd_Grid, (by decide), (xa_m1 43 rfl rfl), rfl, (by decide +kernel)⟩
theorem f_SB_23 : xa_FL "StoneBoard" 23 3 0 true (.int) := ⟨_, kd_Grid, (by decide), (xa_m1 44 rfl rfl), rfl, (by decide +kernel)⟩
theorem f_Chart_28 : xa_FL "StoneBoard$Chart" 28 3 0 true (.int) := ⟨_, kd_Grid, (by decide), (xa_m1 45 rfl rfl), rfl, (by decide +kernel)⟩
theorem f_Grid_15 : xa_FL "StoneBoard$Grid" 15 3 1 true (.array .int) := ⟨_, kd_Grid, (by decide), (xa_m1 46 rfl rfl), rfl, (by decide +kernel)⟩
theorem f_Areas_37 : xa_FL "StoneBoard$Areas" 37 1 0 false (.int) := ⟨_, kd_Areas, (by decide), (xa_m1 65 rfl rfl), rfl, (by decide +kernel)⟩
theorem f_Chart_59 : xa_FL "StoneBoard$Chart" 59 1 0 false (.int) := ⟨_, kd_Areas, (by decide), (xa_m1 66 rfl rfl), rfl, (by decide +kernel)⟩
theorem f_Life_51 : xa_FL "StoneBoard$Life" 51 1 0 false (.int) := ⟨_, kd_Areas, (by decide), (xa_m1 67 rfl rfl), rfl, (by decide +kernel)⟩
theorem f_Areas_9 : xa_FL "StoneBoard$Areas" 9 1 1 true (.object "StoneBoard$Grid") := ⟨_, kd_Areas, (by decide), (xa_m1 68 rfl rfl), rfl, (by decide +kernel)⟩
theorem f_Areas_21 : xa_FL "StoneBoard$Areas" 21 1 2 true (.array .int) := ⟨_, kd_Areas, (by decide), (xa_m1 69 rfl rfl), rfl, (by decide +kernel)⟩
theorem f_Areas_25 : xa_FL "StoneBoard$Areas" 25 1 3 true (.array .int) := ⟨_, kd_Areas, (by decide), (xa_m1 70 rfl rfl), rfl, (by decide +kernel)⟩
theorem f_Areas_28 : xa_FL "StoneBoard$Areas" 28 1 4 true (.array .int) := ⟨_, kd_Areas, (by decide), (xa_m1 71 rfl rfl), rfl, (by decide +kernel)⟩
theorem f_Chart_24 : xa_FL "StoneBoard$Chart" 24 2 0 true (.object "StoneBoard$Areas") := ⟨_, kd_Chart, (by decide), (xa_m1 132 rfl rfl), rfl, (by decide +kernel)⟩
theorem f_Trial_79 : xa_FL "StoneBoard$Trial" 79 2 0 true (.object "StoneBoard$Areas") := ⟨_, kd_Chart, (by decide), (xa_m1 133 rfl rfl), rfl, (by decide +kernel)⟩
theorem f_SB_159 : xa_FL "StoneBoard" 159 2 0 true (.object "StoneBoard$Areas") := ⟨_, kd_Chart, (by decide), (xa_m1 134 rfl rfl), rfl, (by decide +kernel)⟩
theorem f_Chart_9 : xa_FL "StoneBoard$Chart" 9 2 1 true (.object "StoneBoard$Grid") := ⟨_, kd_Chart, (by decide), (xa_m1 135 rfl rfl), rfl, (by decide +kernel)⟩
theorem f_Chart_15 : xa_FL "StoneBoard$Chart" 15 2 2 true (.array .int) := ⟨_, kd_Chart, (by decide), (xa_m1 136 rfl rfl), rfl, (by decide +kernel)⟩
theorem f_Chart_34 : xa_FL "StoneBoard$Chart" 34 2 3 true (.array .int) := ⟨_, kd_Chart, (by decide), (xa_m1 137 rfl rfl), rfl, (by decide +kernel)⟩
theorem f_Chart_37 : xa_FL "StoneBoard$Chart" 37 2 4 true (.array .int) := ⟨_, kd_Chart, (by decide), (xa_m1 138 rfl rfl), rfl, (by decide +kernel)⟩
theorem f_Chart_40 : xa_FL "StoneBoard$Chart" 40 2 5 true (.array .int) := ⟨_, kd_Chart, (by decide), (xa_m1 139 rfl rfl), rfl, (by decide +kernel)⟩
theorem f_Chart_43 : xa_FL "StoneBoard$Chart" 43 2 6 true (.array .int) := ⟨_, kd_Chart, (by decide), (xa_m1 140 rfl rfl), rfl, (by decide +kernel)⟩
theorem f_Trial_35 : xa_FL "StoneBoard$Trial" 35 7 0 true (.array .long) := ⟨_, kd_Trial, (by decide), (xa_m1 165 rfl rfl), rfl, (by decide +kernel)⟩
theorem f_SB_118 : xa_FL "StoneBoard" 118 7 0 true (.array .long) := ⟨_, kd_Trial, (by decide), (xa_m1 166 rfl rfl), rfl, (by decide +kernel)⟩
theorem f_Trial_49 : xa_FL "StoneBoard$Trial" 49 7 1 false (.int) := ⟨_, kd_Trial, (by decide), (xa_m1 167 rfl rfl), rfl, (by decide +kernel)⟩
theorem f_SB_125 : xa_FL "StoneBoard" 125 7 1 false (.int) := ⟨_, kd_Trial, (by decide), (xa_m1 168 rfl rfl), rfl, (by decide +kernel)⟩
theorem f_Trial_56 : xa_FL "StoneBoard$Trial" 56 7 2 false (.int) := ⟨_, kd_Trial, (by decide), (xa_m1 169 rfl rfl), rfl, (by decide +kernel)⟩
theorem f_SB_122 : xa_FL "StoneBoard" 122 7 2 false (.int) := ⟨_, kd_Trial, (by decide), (xa_m1 170 rfl rfl), rfl, (by decide +kernel)⟩
theorem f_Trial_9 : xa_FL "StoneBoard$Trial" 9 7 3 true (.object "StoneBoard$Grid") := ⟨_, kd_Trial, (by decide), (xa_m1 171 rfl rfl), rfl, (by decide +kernel)⟩
theorem f_Trial_15 : xa_FL "StoneBoard$Trial" 15 7 4 true (.array .int) := ⟨_, kd_Trial, (by decide), (xa_m1 172 rfl rfl), rfl, (by decide +kernel)⟩
theorem f_Trial_19 : xa_FL "StoneBoard$Trial" 19 7 5 true (.object "StoneBoard$Chart") := ⟨_, kd_Trial, (by decide), (xa_m1 173 rfl rfl), rfl, (by decide +kernel)⟩
theorem f_Pos_7 : xa_FL "StoneBoard$Position" 7 6 0 true (.object "StoneBoard$Position") := ⟨_, kd_Pos, (by decide), (xa_m1 210 rfl rfl), rfl, (by decide +kernel)⟩
theorem f_History_55 : xa_FL "StoneBoard$History" 55 6 0 true (.object "StoneBoard$Position") := ⟨_, kd_Pos, (by decide), (xa_m1 211 rfl rfl), rfl, (by decide +kernel)⟩
theorem f_Pos_13 : xa_FL "StoneBoard$Position" 13 6 1 true (.object "StoneBoard$Position") := ⟨_, kd_Pos, (by decide), (xa_m1 212 rfl rfl), rfl, (by decide +kernel)⟩
theorem f_History_69 : xa_FL "StoneBoard$History" 69 6 1 true (.object "StoneBoard$Position") := ⟨_, kd_Pos, (by decide), (xa_m1 213 rfl rfl), rfl, (by decide +kernel)⟩
theorem f_Pos_16 : xa_FL "StoneBoard$Position" 16 6 2 true (.array .long) := ⟨_, kd_Pos, (by decide), (xa_m1 214 rfl rfl), rfl, (by decide +kernel)⟩
theorem f_History_31 : xa_FL "StoneBoard$History" 31 6 2 true (.array .long) := ⟨_, kd_Pos, (by decide), (xa_m1 215 rfl rfl), rfl, (by decide +kernel)⟩
theorem f_SB_204 : xa_FL "StoneBoard" 204 6 2 true (.array .long) := ⟨_, kd_Pos, (by decide), (xa_m1 216 rfl rfl), rfl, (by decide +kernel)⟩
theorem f_Pos_20 : xa_FL "StoneBoard$Position" 20 6 3 true (.int) := ⟨_, kd_Pos, (by decide), (xa_m1 217 rfl rfl), rfl, (by decide +kernel)⟩
theorem f_SB_100 : xa_FL "StoneBoard" 100 6 3 true (.int) := ⟨_, kd_Pos, (by decide), (xa_m1 218 rfl rfl), rfl, (by decide +kernel)⟩
theorem f_History_72 : xa_FL "StoneBoard$History" 72 6 3 true (.int) := ⟨_, kd_Pos, (by decide), (xa_m1 219 rfl rfl), rfl, (by decide +kernel)⟩
theorem f_Pos_24 : xa_FL "StoneBoard$Position" 24 6 4 true (.int) := ⟨_, kd_Pos, (by decide), (xa_m1 220 rfl rfl), rfl, (by decide +kernel)⟩
theorem f_History_58 : xa_FL "StoneBoard$History" 58 6 4 true (.int) := ⟨_, kd_Pos, (by decide), (xa_m1 221 rfl rfl), rfl, (by decide +kernel)⟩
theorem f_Pos_27 : xa_FL "StoneBoard$Position" 27 6 5 true (.int) := ⟨_, kd_Pos, (by decide), (xa_m1 222 rfl rfl), rfl, (by decide +kernel)⟩
theorem f_History_48 : xa_FL "StoneBoard$History" 48 6 5 true (.int) := ⟨_, kd_Pos, (by decide), (xa_m1 223 rfl rfl), rfl, (by decide +kernel)⟩
theorem f_SB_150 : xa_FL "StoneBoard" 150 6 5 true (.int) := ⟨_, kd_Pos, (by decide), (xa_m1 224 rfl rfl), rfl, (by decide +kernel)⟩
theorem f_Pos_30 : xa_FL "StoneBoard$Position" 30 6 6 true (.int) := ⟨_, kd_Pos, (by decide), (xa_m1 225 rfl rfl), rfl, (by decide +kernel)⟩
theorem f_History_52 : xa_FL "StoneBoard$History" 52 6 6 true (.int) := ⟨_, kd_Pos, (by decide), (xa_m1 226 rfl rfl), rfl, (by decide +kernel)⟩
theorem f_SB_153 : xa_FL "StoneBoard" 153 6 6 true (.int) := ⟨_, kd_Pos, (by decide), (xa_m1 227 rfl rfl), rfl, (by decide +kernel)⟩
theorem f_History_27 : xa_FL "StoneBoard$History" 27 4 0 false (.object "StoneBoard$Position") := ⟨_, kd_History, (by decide), (xa_m2 3 rfl rfl), rfl, (by decide +kernel)⟩
theorem f_SB_96 : xa_FL "StoneBoard" 96 4 0 false (.object "StoneBoard$Position") := ⟨_, kd_History, (by decide), (xa_m2 4 rfl rfl), rfl, (by decide +kernel)⟩
theorem f_History_13 : xa_FL "StoneBoard$History" 13 4 1 true (.array (.object "StoneBoard$Position")) := ⟨_, kd_History, (by decide), (xa_m2 5 rfl rfl), rfl, (by decide +kernel)⟩
theorem f_Life_9 : xa_FL "StoneBoard$Life" 9 5 0 true (.object "StoneBoard$Grid") := ⟨_, kd_Life, (by decide), (xa_m2 19 rfl rfl), rfl, (by decide +kernel)⟩
theorem f_Life_15 : xa_FL "StoneBoard$Life" 15 5 1 true (.array .int) := ⟨_, kd_Life, (by decide), (xa_m2 20 rfl rfl), rfl, (by decide +kernel)⟩
theorem f_Life_25 : xa_FL "StoneBoard$Life" 25 5 2 true (.array .int) := ⟨_, kd_Life, (by decide), (xa_m2 21 rfl rfl), rfl, (by decide +kernel)⟩
theorem f_Life_33 : xa_FL "StoneBoard$Life" 33 5 3 true (.object "StoneBoard$Areas") := ⟨_, kd_Life, (by decide), (xa_m2 22 rfl rfl), rfl, (by decide +kernel)⟩
theorem f_Life_37 : xa_FL "StoneBoard$Life" 37 5 4 true (.array .boolean) := ⟨_, kd_Life, (by decide), (xa_m2 23 rfl rfl), rfl, (by decide +kernel)⟩
theorem f_Life_41 : xa_FL "StoneBoard$Life" 41 5 5 true (.array .int) := ⟨_, kd_Life, (by decide), (xa_m2 24 rfl rfl), rfl, (by decide +kernel)⟩
theorem f_Life_44 : xa_FL "StoneBoard$Life" 44 5 6 true (.array .int) := ⟨_, kd_Life, (by decide), (xa_m2 25 rfl rfl), rfl, (by decide +kernel)⟩
theorem f_SB_27 : xa_FL "StoneBoard" 27 0 0 true (.int) := ⟨_, kd_SB, (by decide), (xa_m2 42 rfl rfl), rfl, (by decide +kernel)⟩
theorem f_SB_30 : xa_FL "StoneBoard" 30 0 1 true (.object "StoneBoard$Grid") := ⟨_, kd_SB, (by decide), (xa_m2 43 rfl rfl), rfl, (by decide +kernel)⟩
theorem f_SB_34 : xa_FL "StoneBoard" 34 0 2 true (.array .int) := ⟨_, kd_SB, (by decide), (xa_m2 44 rfl rfl), rfl, (by decide +kernel)⟩
theorem f_SB_43 : xa_FL "StoneBoard" 43 0 3 true (.object "StoneBoard$Chart") := ⟨_, kd_SB, (by decide), (xa_m2 45 rfl rfl), rfl, (by decide +kernel)⟩
theorem f_SB_52 : xa_FL "StoneBoard" 52 0 4 true (.object "StoneBoard$Trial") := ⟨_, kd_SB, (by decide), (xa_m2 46 rfl rfl), rfl, (by decide +kernel)⟩
theorem f_SB_59 : xa_FL "StoneBoard" 59 0 5 true (.object "StoneBoard$History") := ⟨_, kd_SB, (by decide), (xa_m2 47 rfl rfl), rfl, (by decide +kernel)⟩
theorem f_SB_66 : xa_FL "StoneBoard" 66 0 6 true (.object "StoneBoard$Life") := ⟨_, kd_SB, (by decide), (xa_m2 48 rfl rfl), rfl, (by decide +kernel)⟩
theorem f_SB_70 : xa_FL "StoneBoard" 70 0 7 false (.int) := ⟨_, kd_SB, (by decide), (xa_m2 49 rfl rfl), rfl, (by decide +kernel)⟩
theorem f_Ref_65 : xa_FL "StoneBoardModel" 65 8 0 false (.int) := ⟨_, kd_Ref, (by decide), (xa_m4 25 rfl rfl), rfl, (by decide +kernel)⟩
theorem f_Ref_59 : xa_FL "StoneBoardModel" 59 8 1 true (.int) := ⟨_, kd_Ref, (by decide), (xa_m4 26 rfl rfl), rfl, (by decide +kernel)⟩
theorem f_Ref_62 : xa_FL "StoneBoardModel" 62 8 2 true (.int) := ⟨_, kd_Ref, (by decide), (xa_m4 27 rfl rfl), rfl, (by decide +kernel)⟩
theorem f_Ref_7 : xa_FL "StoneBoardModel" 7 8 3 true (.array .int) := ⟨_, kd_Ref, (by decide), (xa_m4 28 rfl rfl), rfl, (by decide +kernel)⟩
theorem f_Ref_13 : xa_FL "StoneBoardModel" 13 8 4 true (.array .int) := ⟨_, kd_Ref, (by decide), (xa_m4 29 rfl rfl), rfl, (by decide +kernel)⟩
theorem f_Ref_79 : xa_FL "StoneBoardModel" 79 8 5 false (.int) := ⟨_, kd_Ref, (by decide), (xa_m4 30 rfl rfl), rfl, (by decide +kernel)⟩
theorem f_Ref_93 : xa_FL "StoneBoardModel" 93 8 6 false (.int) := ⟨_, kd_Ref, (by decide), (xa_m4 31 rfl rfl), rfl, (by decide +kernel)⟩
theorem f_Ref_17 : xa_FL "StoneBoardModel" 17 8 7 true (.array .byte) := ⟨_, kd_Ref, (by decide), (xa_m4 32 rfl rfl), rfl, (by decide +kernel)⟩
theorem f_Ref_21 : xa_FL "StoneBoardModel" 21 8 8 true (.array .int) := ⟨_, kd_Ref, (by decide), (xa_m4 33 rfl rfl), rfl, (by decide +kernel)⟩
theorem f_Ref_24 : xa_FL "StoneBoardModel" 24 8 9 true (.array .int) := ⟨_, kd_Ref, (by decide), (xa_m4 34 rfl rfl), rfl, (by decide +kernel)⟩
theorem f_Ref_27 : xa_FL "StoneBoardModel" 27 8 10 true (.array .int) := ⟨_, kd_Ref, (by decide), (xa_m4 35 rfl rfl), rfl, (by decide +kernel)⟩
theorem f_Ref_96 : xa_FL "StoneBoardModel" 96 8 11 false (.int) := ⟨_, kd_Ref, (by decide), (xa_m4 36 rfl rfl), rfl, (by decide +kernel)⟩
theorem f_Ref_30 : xa_FL "StoneBoardModel" 30 8 12 false (.int) := ⟨_, kd_Ref, (by decide), (xa_m4 37 rfl rfl), rfl, (by decide +kernel)⟩
theorem f_Ref_34 : xa_FL "StoneBoardModel" 34 8 13 true (.array .boolean) := ⟨_, kd_Ref, (by decide), (xa_m4 38 rfl rfl), rfl, (by decide +kernel)⟩
theorem f_Ref_38 : xa_FL "StoneBoardModel" 38 8 14 true (.array .int) := ⟨_, kd_Ref, (by decide), (xa_m4 39 rfl rfl), rfl, (by decide +kernel)⟩
theorem f_Ref_68 : xa_FL "StoneBoardModel" 68 8 15 false (.int) := ⟨_, kd_Ref, (by decide), (xa_m4 40 rfl rfl), rfl, (by decide +kernel)⟩
theorem f_Ref_41 : xa_FL "StoneBoardModel" 41 8 16 true (.array .int) := ⟨_, kd_Ref, (by decide), (xa_m4 41 rfl rfl), rfl, (by decide +kernel)⟩
theorem f_Ref_44 : xa_FL "StoneBoardModel" 44 8 17 true (.array .int) := ⟨_, kd_Ref, (by decide), (xa_m4 42 rfl rfl), rfl, (by decide +kernel)⟩
theorem f_Ref_47 : xa_FL "StoneBoardModel" 47 8 18 true (.array .boolean) := ⟨_, kd_Ref, (by decide), (xa_m4 43 rfl rfl), rfl, (by decide +kernel)⟩
theorem f_Ref_50 : xa_FL "StoneBoardModel" 50 8 19 true (.array .boolean) := ⟨_, kd_Ref, (by decide), (xa_m4 44 rfl rfl), rfl, (by decide +kernel)⟩
theorem f_Ref_137 : xa_FL "StoneBoardModel" 137 8 20 false (.int) := ⟨_, kd_Ref, (by decide), (xa_m4 45 rfl rfl), rfl, (by decide +kernel)⟩
theorem f_Ref_149 : xa_FL "StoneBoardModel" 149 8 21 false (.int) := ⟨_, kd_Ref, (by decide), (xa_m4 46 rfl rfl), rfl, (by decide +kernel)⟩
theorem f_Ref_53 : xa_FL "StoneBoardModel" 53 8 22 true (.array .boolean) := ⟨_, kd_Ref, (by decide), (xa_m4 47 rfl rfl), rfl, (by decide +kernel)⟩
theorem f_Ref_56 : xa_FL "StoneBoardModel" 56 8 23 true (.array .boolean) := ⟨_, kd_Ref, (by decide), (xa_m4 48 rfl rfl), rfl, (by decide +kernel)⟩
theorem n_Law_8 : xa_NL "StoneBoardLaw" 8 0 [.int 0, .null, .null, .null, .null, .null, .null, .int 0] := ⟨_, kd_SB, (xa_m1 20 rfl rfl), (xa_m1 21 rfl rfl), (xa_m1 1 rfl rfl), rfl, ty_SB, (by decide +kernel), (by decide +kernel)⟩
theorem n_SB_18 : xa_NL "StoneBoard" 18 3 [.int 0, .null] := ⟨_, kd_Grid, (xa_m1 34 rfl rfl), (xa_m1 35 rfl rfl), (xa_m1 3 rfl rfl), rfl, ty_Grid, (by decide +kernel), (by decide +kernel)⟩
theorem n_SB_38 : xa_NL "StoneBoard" 38 2 [.null, .null, .null, .null, .null, .null, .null] := ⟨_, kd_Chart, (xa_m1 53 rfl rfl), (xa_m1 54 rfl rfl), (xa_m1 4 rfl rfl), rfl, ty_Chart, (by decide +kernel), (by decide +kernel)⟩
theorem n_Chart_19 : xa_NL "StoneBoard$Chart" 19 1 [.int 0, .null, .null, .null, .null] := ⟨_, kd_Areas, (xa_m1 59 rfl rfl), (xa_m1 60 rfl rfl), (xa_m1 5 rfl rfl), rfl, ty_Areas, (by decide +kernel), (by decide +kernel)⟩
theorem n_SB_47 : xa_NL "StoneBoard" 47 7 [.null, .int 0, .int 0, .null, .null, .null] := ⟨_, kd_Trial, (xa_m1 156 rfl rfl), (xa_m1 157 rfl rfl), (xa_m1 7 rfl rfl), rfl, ty_Trial, (by decide +kernel), (by decide +kernel)⟩
theorem n_SB_56 : xa_NL "StoneBoard" 56 4 [.null, .null] := ⟨_, kd_History, (xa_m1 188 rfl rfl), (xa_m1 189 rfl rfl), (xa_m1 9 rfl rfl), rfl, ty_History, (by decide +kernel), (by decide +kernel)⟩
theorem n_History_11 : xa_NL "StoneBoard$History" 11 6 [.null, .null, .null, .int 0, .int 0, .int 0, .int 0] := ⟨_, kd_Pos, (xa_m1 194 rfl rfl), (xa_m1 205 rfl rfl), (xa_m1 10 rfl rfl), rfl, ty_Pos, (by decide +kernel), (by decide +kernel)⟩
theorem n_SB_63 : xa_NL "StoneBoard" 63 5 [.null, .null, .null, .null, .null, .null, .null] := ⟨_, kd_Life, (xa_m2 11 rfl rfl), (xa_m2 12 rfl rfl), (xa_m1 11 rfl rfl), rfl, ty_Life, (by decide +kernel), (by decide +kernel)⟩
theorem n_Life_28 : xa_NL "StoneBoard$Life" 28 1 [.int 0, .null, .null, .null, .null] := ⟨_, kd_Areas, (xa_m2 17 rfl rfl), (xa_m1 60 rfl rfl), (xa_m1 5 rfl rfl), rfl, ty_Areas, (by decide +kernel), (by decide +kernel)⟩
theorem n_Law_78 : xa_NL "StoneBoardLaw" 78 8 [.int 0, .int 0, .int 0, .null, .null, .int 0, .int 0, .null, .null, .null, .null, .int 0, .int 0, .null, .null, .int 0, .null, .null, .null, .null, .int 0, .int 0, .null, .null] := ⟨_, kd_Ref, (xa_m4 18 rfl rfl), (xa_m4 19 rfl rfl), (xa_m1 12 rfl rfl), rfl, ty_Ref, (by decide +kernel), (by decide +kernel)⟩
theorem w_History_78 : Cond.constantLong "StoneBoard$History" 78 (-7046029254386353131 : Int64) ∈ xa_ws := (xa_m1 204 rfl rfl)
theorem w_Packed_9 : Cond.constantLong "StoneBoard$Packed" 9 (3 : Int64) ∈ xa_ws := (xa_m2 103 rfl rfl)
theorem w_Packed_11 : Cond.constantLong "StoneBoard$Packed" 11 (-1 : Int64) ∈ xa_ws := (xa_m2 104 rfl rfl)
theorem w_Ref_16 : Cond.constant "StoneBoardModel" 16 (169169 : Int32) ∈ xa_ws := (xa_m4 24 rfl rfl)
theorem w_arr_i : Cond.arrayClass .int ∈ xa_ws := (xa_m1 52 rfl rfl)
theorem w_arr_l : Cond.arrayClass .long ∈ xa_ws := (xa_m1 187 rfl rfl)
theorem w_arr_z : Cond.arrayClass .boolean ∈ xa_ws := (xa_m2 41 rfl rfl)
theorem w_arr_b : Cond.arrayClass .byte ∈ xa_ws := (xa_m4 98 rfl rfl)
theorem w_cl_pos : Cond.classLink "StoneBoard$History" 11 xa_pos ∈ xa_ws := (xa_m1 194 rfl rfl)
theorem w_arr_q : Cond.arrayOver (.object xa_pos) ∈ xa_ws := (xa_m1 195 rfl rfl)
theorem w_oi : Cond.instanceMethod Lib.objectInit ∈ xa_ws := (xa_m1 26 rfl rfl)
theorem w_oc : Cond.code Lib.objectInit ⟨#[0xb1]⟩ 1 none ∈ xa_ws := (xa_m1 27 rfl rfl)
