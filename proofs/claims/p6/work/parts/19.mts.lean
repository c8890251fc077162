theorem pm_M0 : pm_Mt 0 pm_m0 pm_i0 := ⟨rfl, rfl⟩
theorem pm_M1 : pm_Mt 1 pm_m1 pm_i1 := ⟨rfl, rfl⟩
theorem pm_N1_ini : decide (pm_m1.1.name = "<init>") = true := by decide +kernel
theorem pm_M2 : pm_Mt 2 pm_m2 pm_i2 := ⟨rfl, rfl⟩
theorem pm_N2_ini : decide (pm_m2.1.name = "<init>") = true := by decide +kernel
theorem pm_M3 : pm_Mt 3 pm_m3 pm_i3 := ⟨rfl, rfl⟩
theorem pm_N3_ini : decide (pm_m3.1.name = "<init>") = true := by decide +kernel
theorem pm_M4 : pm_Mt 4 pm_m4 pm_i4 := ⟨rfl, rfl⟩
theorem pm_N4_ini : decide (pm_m4.1.name = "<init>") = true := by decide +kernel
theorem pm_M5 : pm_Mt 5 pm_m5 pm_i5 := ⟨rfl, rfl⟩
theorem pm_N5_ini : decide (pm_m5.1.name = "<init>") = true := by decide +kernel
theorem pm_M6 : pm_Mt 6 pm_m6 pm_i6 := ⟨rfl, rfl⟩
theorem pm_N6_ini : decide (pm_m6.1.name = "<init>") = true := by decide +kernel
theorem pm_M7 : pm_Mt 7 pm_m7 pm_i7 := ⟨rfl, rfl⟩
theorem pm_M8 : pm_Mt 8 pm_m8 pm_i8 := ⟨rfl, rfl⟩
theorem pm_M9 : pm_Mt 9 pm_m9 pm_i9 := ⟨rfl, rfl⟩
theorem pm_M10 : pm_Mt 10 pm_m10 pm_i10 := ⟨rfl, rfl⟩
theorem pm_M11 : pm_Mt 11 pm_m11 pm_i11 := ⟨rfl, rfl⟩
theorem pm_M12 : pm_Mt 12 pm_m12 pm_i12 := ⟨rfl, rfl⟩
theorem pm_M13 : pm_Mt 13 pm_m13 pm_i13 := ⟨rfl, rfl⟩
theorem pm_M14 : pm_Mt 14 pm_m14 pm_i14 := ⟨rfl, rfl⟩
theorem pm_M15 : pm_Mt 15 pm_m15 pm_i15 := ⟨rfl, rfl⟩
theorem pm_M16 : pm_Mt 16 pm_m16 pm_i16 := ⟨rfl, rfl⟩
theorem pm_M17 : pm_Mt 17 pm_m17 pm_i17 := ⟨rfl, rfl⟩
theorem pm_M18 : pm_Mt 18 pm_m18 pm_i18 := ⟨rfl, rfl⟩
theorem pm_M19 : pm_Mt 19 pm_m19 pm_i19 := ⟨rfl, rfl⟩
theorem pm_M20 : pm_Mt 20 pm_m20 pm_i20 := ⟨rfl, rfl⟩
theorem pm_M21 : pm_Mt 21 pm_m21 pm_i21 := ⟨rfl, rfl⟩
theorem pm_M22 : pm_Mt 22 pm_m22 pm_i22 := ⟨rfl, rfl⟩
theorem pm_M23 : pm_Mt 23 pm_m23 pm_i23 := ⟨rfl, rfl⟩
theorem pm_M24 : pm_Mt 24 pm_m24 pm_i24 := ⟨rfl, rfl⟩
theorem pm_M25 : pm_Mt 25 pm_m25 pm_i25 := ⟨rfl, rfl⟩
theorem pm_M26 : pm_Mt 26 pm_m26 pm_i26 := ⟨rfl, rfl⟩
theorem pm_M27 : pm_Mt 27 pm_m27 pm_i27 := ⟨rfl, rfl⟩
theorem pm_M28 : pm_Mt 28 pm_m28 pm_i28 := ⟨rfl, rfl⟩
theorem pm_M29 : pm_Mt 29 pm_m29 pm_i29 := ⟨rfl, rfl⟩
theorem pm_M30 : pm_Mt 30 pm_m30 pm_i30 := ⟨rfl, rfl⟩
theorem pm_M31 : pm_Mt 31 pm_m31 pm_i31 := ⟨rfl, rfl⟩
theorem pm_M32 : pm_Mt 32 pm_m32 pm_i32 := ⟨rfl, rfl⟩
theorem pm_M33 : pm_Mt 33 pm_m33 pm_i33 := ⟨rfl, rfl⟩
theorem pm_M34 : pm_Mt 34 pm_m34 pm_i34 := ⟨rfl, rfl⟩
theorem pm_M35 : pm_Mt 35 pm_m35 pm_i35 := ⟨rfl, rfl⟩
theorem pm_M36 : pm_Mt 36 pm_m36 pm_i36 := ⟨rfl, rfl⟩
theorem pm_M37 : pm_Mt 37 pm_m37 pm_i37 := ⟨rfl, rfl⟩
theorem pm_M38 : pm_Mt 38 pm_m38 pm_i38 := ⟨rfl, rfl⟩
theorem pm_M39 : pm_Mt 39 pm_m39 pm_i39 := ⟨rfl, rfl⟩
theorem pm_M40 : pm_Mt 40 pm_m40 pm_i40 := ⟨rfl, rfl⟩
theorem pm_M41 : pm_Mt 41 pm_m41 pm_i41 := ⟨rfl, rfl⟩
theorem pm_M42 : pm_Mt 42 pm_m42 pm_i42 := ⟨rfl, rfl⟩
theorem pm_M43 : pm_Mt 43 pm_m43 pm_i43 := ⟨rfl, rfl⟩
theorem pm_M44 : pm_Mt 44 pm_m44 pm_i44 := ⟨rfl, rfl⟩
theorem pm_N44_ini : decide (pm_m44.1.name = "<init>") = true := by decide +kernel
theorem pm_M45 : pm_Mt 45 pm_m45 pm_i45 := ⟨rfl, rfl⟩
theorem pm_M46 : pm_Mt 46 pm_m46 pm_i46 := ⟨rfl, rfl⟩
theorem pm_M47 : pm_Mt 47 pm_m47 pm_i47 := ⟨rfl, rfl⟩
theorem pm_N47_ini : decide (pm_m47.1.name = "<init>") = true := by decide +kernel
theorem pm_M48 : pm_Mt 48 pm_m48 pm_i48 := ⟨rfl, rfl⟩
theorem pm_N48_ini : decide (pm_m48.1.name = "<init>") = true := by decide +kernel
theorem pm_M49 : pm_Mt 49 pm_m49 pm_i49 := ⟨rfl, rfl⟩
theorem pm_M50 : pm_Mt 50 pm_m50 pm_i50 := ⟨rfl, rfl⟩
theorem pm_M51 : pm_Mt 51 pm_m51 pm_i51 := ⟨rfl, rfl⟩
theorem pm_M52 : pm_Mt 52 pm_m52 pm_i52 := ⟨rfl, rfl⟩
theorem pm_M53 : pm_Mt 53 pm_m53 pm_i53 := ⟨rfl, rfl⟩
theorem pm_M54 : pm_Mt 54 pm_m54 pm_i54 := ⟨rfl, rfl⟩
theorem pm_N54_ini : decide (pm_m54.1.name = "<init>") = true := by decide +kernel
theorem pm_M55 : pm_Mt 55 pm_m55 pm_i55 := ⟨rfl, rfl⟩
theorem pm_M56 : pm_Mt 56 pm_m56 pm_i56 := ⟨rfl, rfl⟩
theorem pm_M57 : pm_Mt 57 pm_m57 pm_i57 := ⟨rfl, rfl⟩
theorem pm_M58 : pm_Mt 58 pm_m58 pm_i58 := ⟨rfl, rfl⟩
theorem pm_M59 : pm_Mt 59 pm_m59 pm_i59 := ⟨rfl, rfl⟩
theorem pm_M60 : pm_Mt 60 pm_m60 pm_i60 := ⟨rfl, rfl⟩
theorem pm_M61 : pm_Mt 61 pm_m61 pm_i61 := ⟨rfl, rfl⟩
theorem pm_M62 : pm_Mt 62 pm_m62 pm_i62 := ⟨rfl, rfl⟩
theorem pm_M63 : pm_Mt 63 pm_m63 pm_i63 := ⟨rfl, rfl⟩
theorem pm_M64 : pm_Mt 64 pm_m64 pm_i64 := ⟨rfl, rfl⟩
theorem pm_M65 : pm_Mt 65 pm_m65 pm_i65 := ⟨rfl, rfl⟩
theorem pm_M66 : pm_Mt 66 pm_m66 pm_i66 := ⟨rfl, rfl⟩
theorem pm_M67 : pm_Mt 67 pm_m67 pm_i67 := ⟨rfl, rfl⟩
theorem pm_M68 : pm_Mt 68 pm_m68 pm_i68 := ⟨rfl, rfl⟩
theorem pm_M69 : pm_Mt 69 pm_m69 pm_i69 := ⟨rfl, rfl⟩
theorem pm_M70 : pm_Mt 70 pm_m70 pm_i70 := ⟨rfl, rfl⟩
theorem pm_M71 : pm_Mt 71 pm_m71 pm_i71 := ⟨rfl, rfl⟩
theorem pm_M72 : pm_Mt 72 pm_m72 pm_i72 := ⟨rfl, rfl⟩
theorem pm_M73 : pm_Mt 73 pm_m73 pm_i73 := ⟨rfl, rfl⟩
theorem pm_M74 : pm_Mt 74 pm_m74 pm_i74 := ⟨rfl, rfl⟩
theorem pm_M75 : pm_Mt 75 pm_m75 pm_i75 := ⟨rfl, rfl⟩
theorem pm_M76 : pm_Mt 76 pm_m76 pm_i76 := ⟨rfl, rfl⟩
theorem pm_M77 : pm_Mt 77 pm_m77 pm_i77 := ⟨rfl, rfl⟩
theorem pm_M78 : pm_Mt 78 pm_m78 pm_i78 := ⟨rfl, rfl⟩
theorem pm_M79 : pm_Mt 79 pm_m79 pm_i79 := ⟨rfl, rfl⟩
theorem pm_M80 : pm_Mt 80 pm_m80 pm_i80 := ⟨rfl, rfl⟩
theorem pm_M81 : pm_Mt 81 pm_m81 pm_i81 := ⟨rfl, rfl⟩
theorem pm_M82 : pm_Mt 82 pm_m82 pm_i82 := ⟨rfl, rfl⟩
theorem pm_M83 : pm_Mt 83 pm_m83 pm_i83 := ⟨rfl, rfl⟩
theorem pm_N83_ini : decide (pm_m83.1.name = "<init>") = true := by decide +kernel
theorem pm_M84 : pm_Mt 84 pm_m84 pm_i84 := ⟨rfl, rfl⟩
theorem pm_M85 : pm_Mt 85 pm_m85 pm_i85 := ⟨rfl, rfl⟩
theorem pm_M86 : pm_Mt 86 pm_m86 pm_i86 := ⟨rfl, rfl⟩
theorem pm_M87 : pm_Mt 87 pm_m87 pm_i87 := ⟨rfl, rfl⟩
theorem pm_M88 : pm_Mt 88 pm_m88 pm_i88 := ⟨rfl, rfl⟩
theorem pm_M89 : pm_Mt 89 pm_m89 pm_i89 := ⟨rfl, rfl⟩
theorem pm_M90 : pm_Mt 90 pm_m90 pm_i90 := ⟨rfl, rfl⟩
theorem pm_M91 : pm_Mt 91 pm_m91 pm_i91 := ⟨rfl, rfl⟩
theorem pm_M92 : pm_Mt 92 pm_m92 pm_i92 := ⟨rfl, rfl⟩
theorem pm_M93 : pm_Mt 93 pm_m93 pm_i93 := ⟨rfl, rfl⟩
theorem pm_M94 : pm_Mt 94 pm_m94 pm_i94 := ⟨rfl, rfl⟩
theorem pm_M95 : pm_Mt 95 pm_m95 pm_i95 := ⟨rfl, rfl⟩
theorem pm_M96 : pm_Mt 96 pm_m96 pm_i96 := ⟨rfl, rfl⟩
theorem pm_M97 : pm_Mt 97 pm_m97 pm_i97 := ⟨rfl, rfl⟩
theorem pm_M98 : pm_Mt 98 pm_m98 pm_i98 := ⟨rfl, rfl⟩
theorem pm_M99 : pm_Mt 99 pm_m99 pm_i99 := ⟨rfl, rfl⟩
theorem pm_M100 : pm_Mt 100 pm_m100 pm_i100 := ⟨rfl, rfl⟩
theorem pm_M101 : pm_Mt 101 pm_m101 pm_i101 := ⟨rfl, rfl⟩
theorem pm_M102 : pm_Mt 102 pm_m102 pm_i102 := ⟨rfl, rfl⟩
theorem pm_M103 : pm_Mt 103 pm_m103 pm_i103 := ⟨rfl, rfl⟩
theorem pm_M104 : pm_Mt 104 pm_m104 pm_i104 := ⟨rfl, rfl⟩
theorem pm_M105 : pm_Mt 105 pm_m105 pm_i105 := ⟨rfl, rfl⟩
theorem pm_M106 : pm_Mt 106 pm_m106 pm_i106 := ⟨rfl, rfl⟩
theorem pm_M107 : pm_Mt 107 pm_m107 pm_i107 := ⟨rfl, rfl⟩
theorem pm_M108 : pm_Mt 108 pm_m108 pm_i108 := ⟨rfl, rfl⟩
theorem pm_M109 : pm_Mt 109 pm_m109 pm_i109 := ⟨rfl, rfl⟩
theorem pm_M110 : pm_Mt 110 pm_m110 pm_i110 := ⟨rfl, rfl⟩
theorem pm_M111 : pm_Mt 111 pm_m111 pm_i111 := ⟨rfl, rfl⟩
theorem pm_M112 : pm_Mt 112 pm_m112 pm_i112 := ⟨rfl, rfl⟩
theorem pm_M113 : pm_Mt 113 pm_m113 pm_i113 := ⟨rfl, rfl⟩
theorem pm_M114 : pm_Mt 114 pm_m114 pm_i114 := ⟨rfl, rfl⟩
theorem pm_M115 : pm_Mt 115 pm_m115 pm_i115 := ⟨rfl, rfl⟩
theorem pm_M116 : pm_Mt 116 pm_m116 pm_i116 := ⟨rfl, rfl⟩
theorem pm_M117 : pm_Mt 117 pm_m117 pm_i117 := ⟨rfl, rfl⟩
theorem pm_M118 : pm_Mt 118 pm_m118 pm_i118 := ⟨rfl, rfl⟩
theorem pm_M119 : pm_Mt 119 pm_m119 pm_i119 := ⟨rfl, rfl⟩
theorem pm_M120 : pm_Mt 120 pm_m120 pm_i120 := ⟨rfl, rfl⟩
theorem pm_M121 : pm_Mt 121 pm_m121 pm_i121 := ⟨rfl, rfl⟩
theorem pm_M122 : pm_Mt 122 pm_m122 pm_i122 := ⟨rfl, rfl⟩
theorem pm_M123 : pm_Mt 123 pm_m123 pm_i123 := ⟨rfl, rfl⟩
theorem pm_N123_ini : decide (pm_m123.1.name = "<init>") = true := by decide +kernel
theorem pm_M124 : pm_Mt 124 pm_m124 pm_i124 := ⟨rfl, rfl⟩
theorem pm_M125 : pm_Mt 125 pm_m125 pm_i125 := ⟨rfl, rfl⟩
theorem pm_M126 : pm_Mt 126 pm_m126 pm_i126 := ⟨rfl, rfl⟩
theorem pm_M127 : pm_Mt 127 pm_m127 pm_i127 := ⟨rfl, rfl⟩
theorem pm_M128 : pm_Mt 128 pm_m128 pm_i128 := ⟨rfl, rfl⟩
theorem pm_M129 : pm_Mt 129 pm_m129 pm_i129 := ⟨rfl, rfl⟩
theorem pm_M130 : pm_Mt 130 pm_m130 pm_i130 := ⟨rfl, rfl⟩
theorem pm_M131 : pm_Mt 131 pm_m131 pm_i131 := ⟨rfl, rfl⟩
theorem pm_M132 : pm_Mt 132 pm_m132 pm_i132 := ⟨rfl, rfl⟩
theorem pm_M133 : pm_Mt 133 pm_m133 pm_i133 := ⟨rfl, rfl⟩
theorem pm_M134 : pm_Mt 134 pm_m134 pm_i134 := ⟨rfl, rfl⟩
theorem pm_M135 : pm_Mt 135 pm_m135 pm_i135 := ⟨rfl, rfl⟩
theorem pm_M136 : pm_Mt 136 pm_m136 pm_i136 := ⟨rfl, rfl⟩
theorem pm_M137 : pm_Mt 137 pm_m137 pm_i137 := ⟨rfl, rfl⟩
theorem pm_M138 : pm_Mt 138 pm_m138 pm_i138 := ⟨rfl, rfl⟩
theorem pm_M139 : pm_Mt 139 pm_m139 pm_i139 := ⟨rfl, rfl⟩
theorem pm_M140 : pm_Mt 140 pm_m140 pm_i140 := ⟨rfl, rfl⟩
theorem pm_M141 : pm_Mt 141 pm_m141 pm_i141 := ⟨rfl, rfl⟩
theorem pm_M142 : pm_Mt 142 pm_m142 pm_i142 := ⟨rfl, rfl⟩
theorem pm_M143 : pm_Mt 143 pm_m143 pm_i143 := ⟨rfl, rfl⟩
theorem pm_M144 : pm_Mt 144 pm_m144 pm_i144 := ⟨rfl, rfl⟩
theorem pm_M145 : pm_Mt 145 pm_m145 pm_i145 := ⟨rfl, rfl⟩
theorem pm_M146 : pm_Mt 146 pm_m146 pm_i146 := ⟨rfl, rfl⟩
theorem pm_M147 : pm_Mt 147 pm_m147 pm_i147 := ⟨rfl, rfl⟩
theorem pm_M148 : pm_Mt 148 pm_m148 pm_i148 := ⟨rfl, rfl⟩
theorem pm_M149 : pm_Mt 149 pm_m149 pm_i149 := ⟨rfl, rfl⟩
theorem pm_M150 : pm_Mt 150 pm_m150 pm_i150 := ⟨rfl, rfl⟩
theorem pm_M151 : pm_Mt 151 pm_m151 pm_i151 := ⟨rfl, rfl⟩
theorem pm_M152 : pm_Mt 152 pm_m152 pm_i152 := ⟨rfl, rfl⟩
theorem pm_M153 : pm_Mt 153 pm_m153 pm_i153 := ⟨rfl, rfl⟩
theorem pm_M154 : pm_Mt 154 pm_m154 pm_i154 := ⟨rfl, rfl⟩
theorem pm_M155 : pm_Mt 155 pm_m155 pm_i155 := ⟨rfl, rfl⟩
theorem pm_M156 : pm_Mt 156 pm_m156 pm_i156 := ⟨rfl, rfl⟩
theorem pm_M157 : pm_Mt 157 pm_m157 pm_i157 := ⟨rfl, rfl⟩
theorem pm_M158 : pm_Mt 158 pm_m158 pm_i158 := ⟨rfl, rfl⟩
theorem pm_M159 : pm_Mt 159 pm_m159 pm_i159 := ⟨rfl, rfl⟩
theorem pm_M160 : pm_Mt 160 pm_m160 pm_i160 := ⟨rfl, rfl⟩
theorem pm_M161 : pm_Mt 161 pm_m161 pm_i161 := ⟨rfl, rfl⟩
theorem pm_M162 : pm_Mt 162 pm_m162 pm_i162 := ⟨rfl, rfl⟩
theorem pm_M163 : pm_Mt 163 pm_m163 pm_i163 := ⟨rfl, rfl⟩
theorem pm_M164 : pm_Mt 164 pm_m164 pm_i164 := ⟨rfl, rfl⟩
theorem pm_M165 : pm_Mt 165 pm_m165 pm_i165 := ⟨rfl, rfl⟩
theorem pm_M166 : pm_Mt 166 pm_m166 pm_i166 := ⟨rfl, rfl⟩
theorem pm_M167 : pm_Mt 167 pm_m167 pm_i167 := ⟨rfl, rfl⟩
theorem pm_M168 : pm_Mt 168 pm_m168 pm_i168 := ⟨rfl, rfl⟩
theorem pm_M169 : pm_Mt 169 pm_m169 pm_i169 := ⟨rfl, rfl⟩
theorem pm_M170 : pm_Mt 170 pm_m170 pm_i170 := ⟨rfl, rfl⟩
theorem pm_N170_ini : decide (pm_m170.1.name = "<init>") = true := by decide +kernel
theorem pm_M171 : pm_Mt 171 pm_m171 pm_i171 := ⟨rfl, rfl⟩
theorem pm_M172 : pm_Mt 172 pm_m172 pm_i172 := ⟨rfl, rfl⟩
theorem pm_M173 : pm_Mt 173 pm_m173 pm_i173 := ⟨rfl, rfl⟩
theorem pm_M174 : pm_Mt 174 pm_m174 pm_i174 := ⟨rfl, rfl⟩
theorem pm_M175 : pm_Mt 175 pm_m175 pm_i175 := ⟨rfl, rfl⟩
theorem pm_M176 : pm_Mt 176 pm_m176 pm_i176 := ⟨rfl, rfl⟩
theorem pm_M177 : pm_Mt 177 pm_m177 pm_i177 := ⟨rfl, rfl⟩
theorem pm_M178 : pm_Mt 178 pm_m178 pm_i178 := ⟨rfl, rfl⟩
theorem pm_M179 : pm_Mt 179 pm_m179 pm_i179 := ⟨rfl, rfl⟩
theorem pm_M180 : pm_Mt 180 pm_m180 pm_i180 := ⟨rfl, rfl⟩
theorem pm_M181 : pm_Mt 181 pm_m181 pm_i181 := ⟨rfl, rfl⟩
theorem pm_M182 : pm_Mt 182 pm_m182 pm_i182 := ⟨rfl, rfl⟩
theorem pm_M183 : pm_Mt 183 pm_m183 pm_i183 := ⟨rfl, rfl⟩
theorem pm_M184 : pm_Mt 184 pm_m184 pm_i184 := ⟨rfl, rfl⟩
theorem pm_M185 : pm_Mt 185 pm_m185 pm_i185 := ⟨rfl, rfl⟩
theorem pm_M186 : pm_Mt 186 pm_m186 pm_i186 := ⟨rfl, rfl⟩
theorem pm_M187 : pm_Mt 187 pm_m187 pm_i187 := ⟨rfl, rfl⟩
theorem pm_M188 : pm_Mt 188 pm_m188 pm_i188 := ⟨rfl, rfl⟩
theorem pm_M189 : pm_Mt 189 pm_m189 pm_i189 := ⟨rfl, rfl⟩
theorem pm_M190 : pm_Mt 190 pm_m190 pm_i190 := ⟨rfl, rfl⟩
theorem pm_M191 : pm_Mt 191 pm_m191 pm_i191 := ⟨rfl, rfl⟩
theorem pm_M192 : pm_Mt 192 pm_m192 pm_i192 := ⟨rfl, rfl⟩
theorem pm_M193 : pm_Mt 193 pm_m193 pm_i193 := ⟨rfl, rfl⟩
theorem pm_M194 : pm_Mt 194 pm_m194 pm_i194 := ⟨rfl, rfl⟩
theorem pm_M195 : pm_Mt 195 pm_m195 pm_i195 := ⟨rfl, rfl⟩
theorem pm_M196 : pm_Mt 196 pm_m196 pm_i196 := ⟨rfl, rfl⟩
theorem pm_M197 : pm_Mt 197 pm_m197 pm_i197 := ⟨rfl, rfl⟩
theorem pm_M198 : pm_Mt 198 pm_m198 pm_i198 := ⟨rfl, rfl⟩
theorem pm_M199 : pm_Mt 199 pm_m199 pm_i199 := ⟨rfl, rfl⟩
theorem pm_M200 : pm_Mt 200 pm_m200 pm_i200 := ⟨rfl, rfl⟩
theorem pm_M201 : pm_Mt 201 pm_m201 pm_i201 := ⟨rfl, rfl⟩
theorem pm_M202 : pm_Mt 202 pm_m202 pm_i202 := ⟨rfl, rfl⟩
theorem pm_M203 : pm_Mt 203 pm_m203 pm_i203 := ⟨rfl, rfl⟩
theorem pm_M204 : pm_Mt 204 pm_m204 pm_i204 := ⟨rfl, rfl⟩
theorem pm_M205 : pm_Mt 205 pm_m205 pm_i205 := ⟨rfl, rfl⟩
theorem pm_M206 : pm_Mt 206 pm_m206 pm_i206 := ⟨rfl, rfl⟩
theorem pm_M207 : pm_Mt 207 pm_m207 pm_i207 := ⟨rfl, rfl⟩
theorem pm_M208 : pm_Mt 208 pm_m208 pm_i208 := ⟨rfl, rfl⟩
theorem pm_M209 : pm_Mt 209 pm_m209 pm_i209 := ⟨rfl, rfl⟩
theorem pm_M210 : pm_Mt 210 pm_m210 pm_i210 := ⟨rfl, rfl⟩
theorem pm_M211 : pm_Mt 211 pm_m211 pm_i211 := ⟨rfl, rfl⟩
theorem pm_M212 : pm_Mt 212 pm_m212 pm_i212 := ⟨rfl, rfl⟩
theorem pm_M213 : pm_Mt 213 pm_m213 pm_i213 := ⟨rfl, rfl⟩
theorem pm_M214 : pm_Mt 214 pm_m214 pm_i214 := ⟨rfl, rfl⟩
theorem pm_M215 : pm_Mt 215 pm_m215 pm_i215 := ⟨rfl, rfl⟩
theorem pm_M216 : pm_Mt 216 pm_m216 pm_i216 := ⟨rfl, rfl⟩
theorem pm_M217 : pm_Mt 217 pm_m217 pm_i217 := ⟨rfl, rfl⟩
theorem pm_M218 : pm_Mt 218 pm_m218 pm_i218 := ⟨rfl, rfl⟩
theorem pm_M219 : pm_Mt 219 pm_m219 pm_i219 := ⟨rfl, rfl⟩
theorem pm_M220 : pm_Mt 220 pm_m220 pm_i220 := ⟨rfl, rfl⟩
theorem pm_M221 : pm_Mt 221 pm_m221 pm_i221 := ⟨rfl, rfl⟩
theorem pm_M222 : pm_Mt 222 pm_m222 pm_i222 := ⟨rfl, rfl⟩
theorem pm_M223 : pm_Mt 223 pm_m223 pm_i223 := ⟨rfl, rfl⟩
theorem pm_M224 : pm_Mt 224 pm_m224 pm_i224 := ⟨rfl, rfl⟩
theorem pm_M225 : pm_Mt 225 pm_m225 pm_i225 := ⟨rfl, rfl⟩
theorem pm_M226 : pm_Mt 226 pm_m226 pm_i226 := ⟨rfl, rfl⟩
theorem pm_M227 : pm_Mt 227 pm_m227 pm_i227 := ⟨rfl, rfl⟩
theorem pm_M228 : pm_Mt 228 pm_m228 pm_i228 := ⟨rfl, rfl⟩
theorem pm_M229 : pm_Mt 229 pm_m229 pm_i229 := ⟨rfl, rfl⟩
theorem pm_M230 : pm_Mt 230 pm_m230 pm_i230 := ⟨rfl, rfl⟩
theorem pm_M231 : pm_Mt 231 pm_m231 pm_i231 := ⟨rfl, rfl⟩
theorem pm_M232 : pm_Mt 232 pm_m232 pm_i232 := ⟨rfl, rfl⟩
theorem pm_M233 : pm_Mt 233 pm_m233 pm_i233 := ⟨rfl, rfl⟩
theorem pm_M234 : pm_Mt 234 pm_m234 pm_i234 := ⟨rfl, rfl⟩
theorem pm_M235 : pm_Mt 235 pm_m235 pm_i235 := ⟨rfl, rfl⟩
theorem pm_M236 : pm_Mt 236 pm_m236 pm_i236 := ⟨rfl, rfl⟩
theorem pm_M237 : pm_Mt 237 pm_m237 pm_i237 := ⟨rfl, rfl⟩
theorem pm_M238 : pm_Mt 238 pm_m238 pm_i238 := ⟨rfl, rfl⟩
theorem pm_M239 : pm_Mt 239 pm_m239 pm_i239 := ⟨rfl, rfl⟩
theorem pm_M240 : pm_Mt 240 pm_m240 pm_i240 := ⟨rfl, rfl⟩
theorem pm_M241 : pm_Mt 241 pm_m241 pm_i241 := ⟨rfl, rfl⟩
theorem pm_M242 : pm_Mt 242 pm_m242 pm_i242 := ⟨rfl, rfl⟩
theorem pm_M243 : pm_Mt 243 pm_m243 pm_i243 := ⟨rfl, rfl⟩
theorem pm_M244 : pm_Mt 244 pm_m244 pm_i244 := ⟨rfl, rfl⟩
theorem pm_M245 : pm_Mt 245 pm_m245 pm_i245 := ⟨rfl, rfl⟩
theorem pm_M246 : pm_Mt 246 pm_m246 pm_i246 := ⟨rfl, rfl⟩
theorem pm_M247 : pm_Mt 247 pm_m247 pm_i247 := ⟨rfl, rfl⟩
theorem pm_M248 : pm_Mt 248 pm_m248 pm_i248 := ⟨rfl, rfl⟩
theorem pm_M249 : pm_Mt 249 pm_m249 pm_i249 := ⟨rfl, rfl⟩
theorem pm_M250 : pm_Mt 250 pm_m250 pm_i250 := ⟨rfl, rfl⟩
theorem pm_M251 : pm_Mt 251 pm_m251 pm_i251 := ⟨rfl, rfl⟩
theorem pm_M252 : pm_Mt 252 pm_m252 pm_i252 := ⟨rfl, rfl⟩
theorem pm_M253 : pm_Mt 253 pm_m253 pm_i253 := ⟨rfl, rfl⟩
theorem pm_M254 : pm_Mt 254 pm_m254 pm_i254 := ⟨rfl, rfl⟩
theorem pm_M255 : pm_Mt 255 pm_m255 pm_i255 := ⟨rfl, rfl⟩
theorem pm_M256 : pm_Mt 256 pm_m256 pm_i256 := ⟨rfl, rfl⟩
theorem pm_M257 : pm_Mt 257 pm_m257 pm_i257 := ⟨rfl, rfl⟩
theorem pm_M258 : pm_Mt 258 pm_m258 pm_i258 := ⟨rfl, rfl⟩
theorem pm_M259 : pm_Mt 259 pm_m259 pm_i259 := ⟨rfl, rfl⟩
theorem pm_M260 : pm_Mt 260 pm_m260 pm_i260 := ⟨rfl, rfl⟩
theorem pm_M261 : pm_Mt 261 pm_m261 pm_i261 := ⟨rfl, rfl⟩
theorem pm_M262 : pm_Mt 262 pm_m262 pm_i262 := ⟨rfl, rfl⟩
theorem pm_M263 : pm_Mt 263 pm_m263 pm_i263 := ⟨rfl, rfl⟩
theorem pm_M264 : pm_Mt 264 pm_m264 pm_i264 := ⟨rfl, rfl⟩
theorem pm_M265 : pm_Mt 265 pm_m265 pm_i265 := ⟨rfl, rfl⟩
theorem pm_M266 : pm_Mt 266 pm_m266 pm_i266 := ⟨rfl, rfl⟩
theorem pm_M267 : pm_Mt 267 pm_m267 pm_i267 := ⟨rfl, rfl⟩
theorem pm_M268 : pm_Mt 268 pm_m268 pm_i268 := ⟨rfl, rfl⟩
theorem pm_M269 : pm_Mt 269 pm_m269 pm_i269 := ⟨rfl, rfl⟩
theorem pm_M270 : pm_Mt 270 pm_m270 pm_i270 := ⟨rfl, rfl⟩
theorem pm_M271 : pm_Mt 271 pm_m271 pm_i271 := ⟨rfl, rfl⟩
theorem pm_M272 : pm_Mt 272 pm_m272 pm_i272 := ⟨rfl, rfl⟩
theorem pm_M273 : pm_Mt 273 pm_m273 pm_i273 := ⟨rfl, rfl⟩
theorem pm_M274 : pm_Mt 274 pm_m274 pm_i274 := ⟨rfl, rfl⟩
theorem pm_M275 : pm_Mt 275 pm_m275 pm_i275 := ⟨rfl, rfl⟩
theorem pm_M276 : pm_Mt 276 pm_m276 pm_i276 := ⟨rfl, rfl⟩
theorem pm_M277 : pm_Mt 277 pm_m277 pm_i277 := ⟨rfl, rfl⟩
theorem pm_M278 : pm_Mt 278 pm_m278 pm_i278 := ⟨rfl, rfl⟩
theorem pm_M279 : pm_Mt 279 pm_m279 pm_i279 := ⟨rfl, rfl⟩
theorem pm_M280 : pm_Mt 280 pm_m280 pm_i280 := ⟨rfl, rfl⟩
theorem pm_M281 : pm_Mt 281 pm_m281 pm_i281 := ⟨rfl, rfl⟩
theorem pm_M282 : pm_Mt 282 pm_m282 pm_i282 := ⟨rfl, rfl⟩
theorem pm_M283 : pm_Mt 283 pm_m283 pm_i283 := ⟨rfl, rfl⟩
theorem pm_M284 : pm_Mt 284 pm_m284 pm_i284 := ⟨rfl, rfl⟩
theorem pm_M285 : pm_Mt 285 pm_m285 pm_i285 := ⟨rfl, rfl⟩
theorem pm_M286 : pm_Mt 286 pm_m286 pm_i286 := ⟨rfl, rfl⟩
theorem pm_M287 : pm_Mt 287 pm_m287 pm_i287 := ⟨rfl, rfl⟩
theorem pm_M288 : pm_Mt 288 pm_m288 pm_i288 := ⟨rfl, rfl⟩
theorem pm_M289 : pm_Mt 289 pm_m289 pm_i289 := ⟨rfl, rfl⟩
theorem pm_M290 : pm_Mt 290 pm_m290 pm_i290 := ⟨rfl, rfl⟩
theorem pm_M291 : pm_Mt 291 pm_m291 pm_i291 := ⟨rfl, rfl⟩
theorem pm_M292 : pm_Mt 292 pm_m292 pm_i292 := ⟨rfl, rfl⟩
theorem pm_M293 : pm_Mt 293 pm_m293 pm_i293 := ⟨rfl, rfl⟩
theorem pm_M294 : pm_Mt 294 pm_m294 pm_i294 := ⟨rfl, rfl⟩
theorem pm_M295 : pm_Mt 295 pm_m295 pm_i295 := ⟨rfl, rfl⟩
theorem pm_M296 : pm_Mt 296 pm_m296 pm_i296 := ⟨rfl, rfl⟩
theorem pm_M297 : pm_Mt 297 pm_m297 pm_i297 := ⟨rfl, rfl⟩
theorem pm_M298 : pm_Mt 298 pm_m298 pm_i298 := ⟨rfl, rfl⟩
theorem pm_find_skip {α : Type} : ∀ (a b : List (Nat × α)) (k : Nat), (∀ x ∈ a, x.1 < k) → pm_find (a ++ b) k = pm_find b k
  | [], _, _, _ => rfl
  | x :: a, b, k, h => by
    have h1 : x.1 < k := h x List.mem_cons_self
    have hb : Nat.beq k x.1 = false := by
      cases hq : Nat.beq k x.1 with
      | false => rfl
      | true => have := Nat.eq_of_beq_eq_true hq; omega
    show cond (Nat.beq k x.1) (some x.2) (pm_find (a ++ b) k) = _
    rw [hb]
    exact pm_find_skip a b k (fun y hy => h y (List.mem_cons_of_mem _ hy))
theorem pm_q0_1 {pc : Nat} (h : 260 ≤ pc) : pm_find pm_i0 pc = pm_find (pm_i0_1 ++ (pm_i0_2 ++ (pm_i0_3 ++ (pm_i0_4 ++ (pm_i0_5 ++ (pm_i0_6 ++ (pm_i0_7 ++ (pm_i0_8 ++ (pm_i0_9 ++ (pm_i0_10 ++ (pm_i0_11 ++ (pm_i0_12 ++ (pm_i0_13 ++ (pm_i0_14 ++ (pm_i0_15 ++ (pm_i0_16 ++ (pm_i0_17 ++ (pm_i0_18 ++ (pm_i0_19 ++ (pm_i0_20 ++ (pm_i0_21 ++ (pm_i0_22 ++ (pm_i0_23 ++ (pm_i0_24 ++ (pm_i0_25 ++ (pm_i0_26 ++ (pm_i0_27))))))))))))))))))))))))))) pc := ((rfl : pm_find pm_i0 pc = pm_find (pm_i0_0 ++ (pm_i0_1 ++ (pm_i0_2 ++ (pm_i0_3 ++ (pm_i0_4 ++ (pm_i0_5 ++ (pm_i0_6 ++ (pm_i0_7 ++ (pm_i0_8 ++ (pm_i0_9 ++ (pm_i0_10 ++ (pm_i0_11 ++ (pm_i0_12 ++ (pm_i0_13 ++ (pm_i0_14 ++ (pm_i0_15 ++ (pm_i0_16 ++ (pm_i0_17 ++ (pm_i0_18 ++ (pm_i0_19 ++ (pm_i0_20 ++ (pm_i0_21 ++ (pm_i0_22 ++ (pm_i0_23 ++ (pm_i0_24 ++ (pm_i0_25 ++ (pm_i0_26 ++ (pm_i0_27)))))))))))))))))))))))))))) pc)).trans (pm_find_skip pm_i0_0 (pm_i0_1 ++ (pm_i0_2 ++ (pm_i0_3 ++ (pm_i0_4 ++ (pm_i0_5 ++ (pm_i0_6 ++ (pm_i0_7 ++ (pm_i0_8 ++ (pm_i0_9 ++ (pm_i0_10 ++ (pm_i0_11 ++ (pm_i0_12 ++ (pm_i0_13 ++ (pm_i0_14 ++ (pm_i0_15 ++ (pm_i0_16 ++ (pm_i0_17 ++ (pm_i0_18 ++ (pm_i0_19 ++ (pm_i0_20 ++ (pm_i0_21 ++ (pm_i0_22 ++ (pm_i0_23 ++ (pm_i0_24 ++ (pm_i0_25 ++ (pm_i0_26 ++ (pm_i0_27))))))))))))))))))))))))))) pc (fun x hx => Nat.lt_of_lt_of_le ((by decide +kernel : ∀ x ∈ pm_i0_0, x.1 < 260) x hx) h))
theorem pm_q0_2 {pc : Nat} (h : 332 ≤ pc) : pm_find pm_i0 pc = pm_find (pm_i0_2 ++ (pm_i0_3 ++ (pm_i0_4 ++ (pm_i0_5 ++ (pm_i0_6 ++ (pm_i0_7 ++ (pm_i0_8 ++ (pm_i0_9 ++ (pm_i0_10 ++ (pm_i0_11 ++ (pm_i0_12 ++ (pm_i0_13 ++ (pm_i0_14 ++ (pm_i0_15 ++ (pm_i0_16 ++ (pm_i0_17 ++ (pm_i0_18 ++ (pm_i0_19 ++ (pm_i0_20 ++ (pm_i0_21 ++ (pm_i0_22 ++ (pm_i0_23 ++ (pm_i0_24 ++ (pm_i0_25 ++ (pm_i0_26 ++ (pm_i0_27)))))))))))))))))))))))))) pc := (pm_q0_1 (by omega)).trans (pm_find_skip pm_i0_1 (pm_i0_2 ++ (pm_i0_3 ++ (pm_i0_4 ++ (pm_i0_5 ++ (pm_i0_6 ++ (pm_i0_7 ++ (pm_i0_8 ++ (pm_i0_9 ++ (pm_i0_10 ++ (pm_i0_11 ++ (pm_i0_12 ++ (pm_i0_13 ++ (pm_i0_14 ++ (pm_i0_15 ++ (pm_i0_16 ++ (pm_i0_17 ++ (pm_i0_18 ++ (pm_i0_19 ++ (pm_i0_20 ++ (pm_i0_21 ++ (pm_i0_22 ++ (pm_i0_23 ++ (pm_i0_24 ++ (pm_i0_25 ++ (pm_i0_26 ++ (pm_i0_27)))))))))))))))))))))))))) pc (fun x hx => Nat.lt_of_lt_of_le ((by decide +kernel : ∀ x ∈ pm_i0_1, x.1 < 332) x hx) h))
theorem pm_q0_3 {pc : Nat} (h : 408 ≤ pc) : pm_find pm_i0 pc = pm_find (pm_i0_3 ++ (pm_i0_4 ++ (pm_i0_5 ++ (pm_i0_6 ++ (pm_i0_7 ++ (pm_i0_8 ++ (pm_i0_9 ++ (pm_i0_10 ++ (pm_i0_11 ++ (pm_i0_12 ++ (pm_i0_13 ++ (pm_i0_14 ++ (pm_i0_15 ++ (pm_i0_16 ++ (pm_i0_17 ++ (pm_i0_18 ++ (pm_i0_19 ++ (pm_i0_20 ++ (pm_i0_21 ++ (pm_i0_22 ++ (pm_i0_23 ++ (pm_i0_24 ++ (pm_i0_25 ++ (pm_i0_26 ++ (pm_i0_27))))))))))))))))))))))))) pc := (pm_q0_2 (by omega)).trans (pm_find_skip pm_i0_2 (pm_i0_3 ++ (pm_i0_4 ++ (pm_i0_5 ++ (pm_i0_6 ++ (pm_i0_7 ++ (pm_i0_8 ++ (pm_i0_9 ++ (pm_i0_10 ++ (pm_i0_11 ++ (pm_i0_12 ++ (pm_i0_13 ++ (pm_i0_14 ++ (pm_i0_15 ++ (pm_i0_16 ++ (pm_i0_17 ++ (pm_i0_18 ++ (pm_i0_19 ++ (pm_i0_20 ++ (pm_i0_21 ++ (pm_i0_22 ++ (pm_i0_23 ++ (pm_i0_24 ++ (pm_i0_25 ++ (pm_i0_26 ++ (pm_i0_27))))))))))))))))))))))))) pc (fun x hx => Nat.lt_of_lt_of_le ((by decide +kernel : ∀ x ∈ pm_i0_2, x.1 < 408) x hx) h))
theorem pm_q0_4 {pc : Nat} (h : 478 ≤ pc) : pm_find pm_i0 pc = pm_find (pm_i0_4 ++ (pm_i0_5 ++ (pm_i0_6 ++ (pm_i0_7 ++ (pm_i0_8 ++ (pm_i0_9 ++ (pm_i0_10 ++ (pm_i0_11 ++ (pm_i0_12 ++ (pm_i0_13 ++ (pm_i0_14 ++ (pm_i0_15 ++ (pm_i0_16 ++ (pm_i0_17 ++ (pm_i0_18 ++ (pm_i0_19 ++ (pm_i0_20 ++ (pm_i0_21 ++ (pm_i0_22 ++ (pm_i0_23 ++ (pm_i0_24 ++ (pm_i0_25 ++ (pm_i0_26 ++ (pm_i0_27)))))))))))))))))))))))) pc := (pm_q0_3 (by omega)).trans (pm_find_skip pm_i0_3 (pm_i0_4 ++ (pm_i0_5 ++ (pm_i0_6 ++ (pm_i0_7 ++ (pm_i0_8 ++ (pm_i0_9 ++ (pm_i0_10 ++ (pm_i0_11 ++ (pm_i0_12 ++ (pm_i0_13 ++ (pm_i0_14 ++ (pm_i0_15 ++ (pm_i0_16 ++ (pm_i0_17 ++ (pm_i0_18 ++ (pm_i0_19 ++ (pm_i0_20 ++ (pm_i0_21 ++ (pm_i0_22 ++ (pm_i0_23 ++ (pm_i0_24 ++ (pm_i0_25 ++ (pm_i0_26 ++ (pm_i0_27)))))))))))))))))))))))) pc (fun x hx => Nat.lt_of_lt_of_le ((by decide +kernel : ∀ x ∈ pm_i0_3, x.1 < 478) x hx) h))
theorem pm_q0_5 {pc : Nat} (h : 548 ≤ pc) : pm_find pm_i0 pc = pm_find (pm_i0_5 ++ (pm_i0_6 ++ (pm_i0_7 ++ (pm_i0_8 ++ (pm_i0_9 ++ (pm_i0_10 ++ (pm_i0_11 ++ (pm_i0_12 ++ (pm_i0_13 ++ (pm_i0_14 ++ (pm_i0_15 ++ (pm_i0_16 ++ (pm_i0_17 ++ (pm_i0_18 ++ (pm_i0_19 ++ (pm_i0_20 ++ (pm_i0_21 ++ (pm_i0_22 ++ (pm_i0_23 ++ (pm_i0_24 ++ (pm_i0_25 ++ (pm_i0_26 ++ (pm_i0_27))))))))))))))))))))))) pc := (pm_q0_4 (by omega)).trans (pm_find_skip pm_i0_4 (pm_i0_5 ++ (pm_i0_6 ++ (pm_i0_7 ++ (pm_i0_8 ++ (pm_i0_9 ++ (pm_i0_10 ++ (pm_i0_11 ++ (pm_i0_12 ++ (pm_i0_13 ++ (pm_i0_14 ++ (pm_i0_15 ++ (pm_i0_16 ++ (pm_i0_17 ++ (pm_i0_18 ++ (pm_i0_19 ++ (pm_i0_20 ++ (pm_i0_21 ++ (pm_i0_22 ++ (pm_i0_23 ++ (pm_i0_24 ++ (pm_i0_25 ++ (pm_i0_26 ++ (pm_i0_27))))))))))))))))))))))) pc (fun x hx => Nat.lt_of_lt_of_le ((by decide +kernel : ∀ x ∈ pm_i0_4, x.1 < 548) x hx) h))
theorem pm_q0_6 {pc : Nat} (h : 616 ≤ pc) : pm_find pm_i0 pc = pm_find (pm_i0_6 ++ (pm_i0_7 ++ (pm_i0_8 ++ (pm_i0_9 ++ (pm_i0_10 ++ (pm_i0_11 ++ (pm_i0_12 ++ (pm_i0_13 ++ (pm_i0_14 ++ (pm_i0_15 ++ (pm_i0_16 ++ (pm_i0_17 ++ (pm_i0_18 ++ (pm_i0_19 ++ (pm_i0_20 ++ (pm_i0_21 ++ (pm_i0_22 ++ (pm_i0_23 ++ (pm_i0_24 ++ (pm_i0_25 ++ (pm_i0_26 ++ (pm_i0_27)))))))))))))))))))))) pc := (pm_q0_5 (by omega)).trans (pm_find_skip pm_i0_5 (pm_i0_6 ++ (pm_i0_7 ++ (pm_i0_8 ++ (pm_i0_9 ++ (pm_i0_10 ++ (pm_i0_11 ++ (pm_i0_12 ++ (pm_i0_13 ++ (pm_i0_14 ++ (pm_i0_15 ++ (pm_i0_16 ++ (pm_i0_17 ++ (pm_i0_18 ++ (pm_i0_19 ++ (pm_i0_20 ++ (pm_i0_21 ++ (pm_i0_22 ++ (pm_i0_23 ++ (pm_i0_24 ++ (pm_i0_25 ++ (pm_i0_26 ++ (pm_i0_27)))))))))))))))))))))) pc (fun x hx => Nat.lt_of_lt_of_le ((by decide +kernel : ∀ x ∈ pm_i0_5, x.1 < 616) x hx) h))
theorem pm_q0_7 {pc : Nat} (h : 685 ≤ pc) : pm_find pm_i0 pc = pm_find (pm_i0_7 ++ (pm_i0_8 ++ (pm_i0_9 ++ (pm_i0_10 ++ (pm_i0_11 ++ (pm_i0_12 ++ (pm_i0_13 ++ (pm_i0_14 ++ (pm_i0_15 ++ (pm_i0_16 ++ (pm_i0_17 ++ (pm_i0_18 ++ (pm_i0_19 ++ (pm_i0_20 ++ (pm_i0_21 ++ (pm_i0_22 ++ (pm_i0_23 ++ (pm_i0_24 ++ (pm_i0_25 ++ (pm_i0_26 ++ (pm_i0_27))))))))))))))))))))) pc := (pm_q0_6 (by omega)).trans (pm_find_skip pm_i0_6 (pm_i0_7 ++ (pm_i0_8 ++ (pm_i0_9 ++ (pm_i0_10 ++ (pm_i0_11 ++ (pm_i0_12 ++ (pm_i0_13 ++ (pm_i0_14 ++ (pm_i0_15 ++ (pm_i0_16 ++ (pm_i0_17 ++ (pm_i0_18 ++ (pm_i0_19 ++ (pm_i0_20 ++ (pm_i0_21 ++ (pm_i0_22 ++ (pm_i0_23 ++ (pm_i0_24 ++ (pm_i0_25 ++ (pm_i0_26 ++ (pm_i0_27))))))))))))))))))))) pc (fun x hx => Nat.lt_of_lt_of_le ((by decide +kernel : ∀ x ∈ pm_i0_6, x.1 < 685) x hx) h))
theorem pm_q0_8 {pc : Nat} (h : 756 ≤ pc) : pm_find pm_i0 pc = pm_find (pm_i0_8 ++ (pm_i0_9 ++ (pm_i0_10 ++ (pm_i0_11 ++ (pm_i0_12 ++ (pm_i0_13 ++ (pm_i0_14 ++ (pm_i0_15 ++ (pm_i0_16 ++ (pm_i0_17 ++ (pm_i0_18 ++ (pm_i0_19 ++ (pm_i0_20 ++ (pm_i0_21 ++ (pm_i0_22 ++ (pm_i0_23 ++ (pm_i0_24 ++ (pm_i0_25 ++ (pm_i0_26 ++ (pm_i0_27)))))))))))))))))))) pc := (pm_q0_7 (by omega)).trans (pm_find_skip pm_i0_7 (pm_i0_8 ++ (pm_i0_9 ++ (pm_i0_10 ++ (pm_i0_11 ++ (pm_i0_12 ++ (pm_i0_13 ++ (pm_i0_14 ++ (pm_i0_15 ++ (pm_i0_16 ++ (pm_i0_17 ++ (pm_i0_18 ++ (pm_i0_19 ++ (pm_i0_20 ++ (pm_i0_21 ++ (pm_i0_22 ++ (pm_i0_23 ++ (pm_i0_24 ++ (pm_i0_25 ++ (pm_i0_26 ++ (pm_i0_27)))))))))))))))))))) pc (fun x hx => Nat.lt_of_lt_of_le ((by decide +kernel : ∀ x ∈ pm_i0_7, x.1 < 756) x hx) h))
theorem pm_q0_9 {pc : Nat} (h : 824 ≤ pc) : pm_find pm_i0 pc = pm_find (pm_i0_9 ++ (pm_i0_10 ++ (pm_i0_11 ++ (pm_i0_12 ++ (pm_i0_13 ++ (pm_i0_14 ++ (pm_i0_15 ++ (pm_i0_16 ++ (pm_i0_17 ++ (pm_i0_18 ++ (pm_i0_19 ++ (pm_i0_20 ++ (pm_i0_21 ++ (pm_i0_22 ++ (pm_i0_23 ++ (pm_i0_24 ++ (pm_i0_25 ++ (pm_i0_26 ++ (pm_i0_27))))))))))))))))))) pc := (pm_q0_8 (by omega)).trans (pm_find_skip pm_i0_8 (pm_i0_9 ++ (pm_i0_10 ++ (pm_i0_11 ++ (pm_i0_12 ++ (pm_i0_13 ++ (pm_i0_14 ++ (pm_i0_15 ++ (pm_i0_16 ++ (pm_i0_17 ++ (pm_i0_18 ++ (pm_i0_19 ++ (pm_i0_20 ++ (pm_i0_21 ++ (pm_i0_22 ++ (pm_i0_23 ++ (pm_i0_24 ++ (pm_i0_25 ++ (pm_i0_26 ++ (pm_i0_27))))))))))))))))))) pc (fun x hx => Nat.lt_of_lt_of_le ((by decide +kernel : ∀ x ∈ pm_i0_8, x.1 < 824) x hx) h))
theorem pm_q0_10 {pc : Nat} (h : 894 ≤ pc) : pm_find pm_i0 pc = pm_find (pm_i0_10 ++ (pm_i0_11 ++ (pm_i0_12 ++ (pm_i0_13 ++ (pm_i0_14 ++ (pm_i0_15 ++ (pm_i0_16 ++ (pm_i0_17 ++ (pm_i0_18 ++ (pm_i0_19 ++ (pm_i0_20 ++ (pm_i0_21 ++ (pm_i0_22 ++ (pm_i0_23 ++ (pm_i0_24 ++ (pm_i0_25 ++ (pm_i0_26 ++ (pm_i0_27)))))))))))))))))) pc := (pm_q0_9 (by omega)).trans (pm_find_skip pm_i0_9 (pm_i0_10 ++ (pm_i0_11 ++ (pm_i0_12 ++ (pm_i0_13 ++ (pm_i0_14 ++ (pm_i0_15 ++ (pm_i0_16 ++ (pm_i0_17 ++ (pm_i0_18 ++ (pm_i0_19 ++ (pm_i0_20 ++ (pm_i0_21 ++ (pm_i0_22 ++ (pm_i0_23 ++ (pm_i0_24 ++ (pm_i0_25 ++ (pm_i0_26 ++ (pm_i0_27)))))))))))))))))) pc (fun x hx => Nat.lt_of_lt_of_le ((by decide +kernel : ∀ x ∈ pm_i0_9, x.1 < 894) x hx) h))
theorem pm_q0_11 {pc : Nat} (h : 962 ≤ pc) : pm_find pm_i0 pc = pm_find (pm_i0_11 ++ (pm_i0_12 ++ (pm_i0_13 ++ (pm_i0_14 ++ (pm_i0_15 ++ (pm_i0_16 ++ (pm_i0_17 ++ (pm_i0_18 ++ (pm_i0_19 ++ (pm_i0_20 ++ (pm_i0_21 ++ (pm_i0_22 ++ (pm_i0_23 ++ (pm_i0_24 ++ (pm_i0_25 ++ (pm_i0_26 ++ (pm_i0_27))))))))))))))))) pc := (pm_q0_10 (by omega)).trans (pm_find_skip pm_i0_10 (pm_i0_11 ++ (pm_i0_12 ++ (pm_i0_13 ++ (pm_i0_14 ++ (pm_i0_15 ++ (pm_i0_16 ++ (pm_i0_17 ++ (pm_i0_18 ++ (pm_i0_19 ++ (pm_i0_20 ++ (pm_i0_21 ++ (pm_i0_22 ++ (pm_i0_23 ++ (pm_i0_24 ++ (pm_i0_25 ++ (pm_i0_26 ++ (pm_i0_27))))))))))))))))) pc (fun x hx => Nat.lt_of_lt_of_le ((by decide +kernel : ∀ x ∈ pm_i0_10, x.1 < 962) x hx) h))
theorem pm_q0_12 {pc : Nat} (h : 1034 ≤ pc) : pm_find pm_i0 pc = pm_find (pm_i0_12 ++ (pm_i0_13 ++ (pm_i0_14 ++ (pm_i0_15 ++ (pm_i0_16 ++ (pm_i0_17 ++ (pm_i0_18 ++ (pm_i0_19 ++ (pm_i0_20 ++ (pm_i0_21 ++ (pm_i0_22 ++ (pm_i0_23 ++ (pm_i0_24 ++ (pm_i0_25 ++ (pm_i0_26 ++ (pm_i0_27)))))))))))))))) pc := (pm_q0_11 (by omega)).trans (pm_find_skip pm_i0_11 (pm_i0_12 ++ (pm_i0_13 ++ (pm_i0_14 ++ (pm_i0_15 ++ (pm_i0_16 ++ (pm_i0_17 ++ (pm_i0_18 ++ (pm_i0_19 ++ (pm_i0_20 ++ (pm_i0_21 ++ (pm_i0_22 ++ (pm_i0_23 ++ (pm_i0_24 ++ (pm_i0_25 ++ (pm_i0_26 ++ (pm_i0_27)))))))))))))))) pc (fun x hx => Nat.lt_of_lt_of_le ((by decide +kernel : ∀ x ∈ pm_i0_11, x.1 < 1034) x hx) h))
theorem pm_q0_13 {pc : Nat} (h : 1106 ≤ pc) : pm_find pm_i0 pc = pm_find (pm_i0_13 ++ (pm_i0_14 ++ (pm_i0_15 ++ (pm_i0_16 ++ (pm_i0_17 ++ (pm_i0_18 ++ (pm_i0_19 ++ (pm_i0_20 ++ (pm_i0_21 ++ (pm_i0_22 ++ (pm_i0_23 ++ (pm_i0_24 ++ (pm_i0_25 ++ (pm_i0_26 ++ (pm_i0_27))))))))))))))) pc := (pm_q0_12 (by omega)).trans (pm_find_skip pm_i0_12 (pm_i0_13 ++ (pm_i0_14 ++ (pm_i0_15 ++ (pm_i0_16 ++ (pm_i0_17 ++ (pm_i0_18 ++ (pm_i0_19 ++ (pm_i0_20 ++ (pm_i0_21 ++ (pm_i0_22 ++ (pm_i0_23 ++ (pm_i0_24 ++ (pm_i0_25 ++ (pm_i0_26 ++ (pm_i0_27))))))))))))))) pc (fun x hx => Nat.lt_of_lt_of_le ((by decide +kernel : ∀ x ∈ pm_i0_12, x.1 < 1106) x hx) h))
theorem pm_q0_14 {pc : Nat} (h : 1176 ≤ pc) : pm_find pm_i0 pc = pm_find (pm_i0_14 ++ (pm_i0_15 ++ (pm_i0_16 ++ (pm_i0_17 ++ (pm_i0_18 ++ (pm_i0_19 ++ (pm_i0_20 ++ (pm_i0_21 ++ (pm_i0_22 ++ (pm_i0_23 ++ (pm_i0_24 ++ (pm_i0_25 ++ (pm_i0_26 ++ (pm_i0_27)))))))))))))) pc := (pm_q0_13 (by omega)).trans (pm_find_skip pm_i0_13 (pm_i0_14 ++ (pm_i0_15 ++ (pm_i0_16 ++ (pm_i0_17 ++ (pm_i0_18 ++ (pm_i0_19 ++ (pm_i0_20 ++ (pm_i0_21 ++ (pm_i0_22 ++ (pm_i0_23 ++ (pm_i0_24 ++ (pm_i0_25 ++ (pm_i0_26 ++ (pm_i0_27)))))))))))))) pc (fun x hx => Nat.lt_of_lt_of_le ((by decide +kernel : ∀ x ∈ pm_i0_13, x.1 < 1176) x hx) h))
theorem pm_q0_15 {pc : Nat} (h : 1244 ≤ pc) : pm_find pm_i0 pc = pm_find (pm_i0_15 ++ (pm_i0_16 ++ (pm_i0_17 ++ (pm_i0_18 ++ (pm_i0_19 ++ (pm_i0_20 ++ (pm_i0_21 ++ (pm_i0_22 ++ (pm_i0_23 ++ (pm_i0_24 ++ (pm_i0_25 ++ (pm_i0_26 ++ (pm_i0_27))))))))))))) pc := (pm_q0_14 (by omega)).trans (pm_find_skip pm_i0_14 (pm_i0_15 ++ (pm_i0_16 ++ (pm_i0_17 ++ (pm_i0_18 ++ (pm_i0_19 ++ (pm_i0_20 ++ (pm_i0_21 ++ (pm_i0_22 ++ (pm_i0_23 ++ (pm_i0_24 ++ (pm_i0_25 ++ (pm_i0_26 ++ (pm_i0_27))))))))))))) pc (fun x hx => Nat.lt_of_lt_of_le ((by decide +kernel : ∀ x ∈ pm_i0_14, x.1 < 1244) x hx) h))
theorem pm_q0_16 {pc : Nat} (h : 1310 ≤ pc) : pm_find pm_i0 pc = pm_find (pm_i0_16 ++ (pm_i0_17 ++ (pm_i0_18 ++ (pm_i0_19 ++ (pm_i0_20 ++ (pm_i0_21 ++ (pm_i0_22 ++ (pm_i0_23 ++ (pm_i0_24 ++ (pm_i0_25 ++ (pm_i0_26 ++ (pm_i0_27)))))))))))) pc := (pm_q0_15 (by omega)).trans (pm_find_skip pm_i0_15 (pm_i0_16 ++ (pm_i0_17 ++ (pm_i0_18 ++ (pm_i0_19 ++ (pm_i0_20 ++ (pm_i0_21 ++ (pm_i0_22 ++ (pm_i0_23 ++ (pm_i0_24 ++ (pm_i0_25 ++ (pm_i0_26 ++ (pm_i0_27)))))))))))) pc (fun x hx => Nat.lt_of_lt_of_le ((by decide +kernel : ∀ x ∈ pm_i0_15, x.1 < 1310) x hx) h))
theorem pm_q0_17 {pc : Nat} (h : 1380 ≤ pc) : pm_find pm_i0 pc = pm_find (pm_i0_17 ++ (pm_i0_18 ++ (pm_i0_19 ++ (pm_i0_20 ++ (pm_i0_21 ++ (pm_i0_22 ++ (pm_i0_23 ++ (pm_i0_24 ++ (pm_i0_25 ++ (pm_i0_26 ++ (pm_i0_27))))))))))) pc := (pm_q0_16 (by omega)).trans (pm_find_skip pm_i0_16 (pm_i0_17 ++ (pm_i0_18 ++ (pm_i0_19 ++ (pm_i0_20 ++ (pm_i0_21 ++ (pm_i0_22 ++ (pm_i0_23 ++ (pm_i0_24 ++ (pm_i0_25 ++ (pm_i0_26 ++ (pm_i0_27))))))))))) pc (fun x hx => Nat.lt_of_lt_of_le ((by decide +kernel : ∀ x ∈ pm_i0_16, x.1 < 1380) x hx) h))
theorem pm_q0_18 {pc : Nat} (h : 1448 ≤ pc) : pm_find pm_i0 pc = pm_find (pm_i0_18 ++ (pm_i0_19 ++ (pm_i0_20 ++ (pm_i0_21 ++ (pm_i0_22 ++ (pm_i0_23 ++ (pm_i0_24 ++ (pm_i0_25 ++ (pm_i0_26 ++ (pm_i0_27)))))))))) pc := (pm_q0_17 (by omega)).trans (pm_find_skip pm_i0_17 (pm_i0_18 ++ (pm_i0_19 ++ (pm_i0_20 ++ (pm_i0_21 ++ (pm_i0_22 ++ (pm_i0_23 ++ (pm_i0_24 ++ (pm_i0_25 ++ (pm_i0_26 ++ (pm_i0_27)))))))))) pc (fun x hx => Nat.lt_of_lt_of_le ((by decide +kernel : ∀ x ∈ pm_i0_17, x.1 < 1448) x hx) h))
theorem pm_q0_19 {pc : Nat} (h : 1518 ≤ pc) : pm_find pm_i0 pc = pm_find (pm_i0_19 ++ (pm_i0_20 ++ (pm_i0_21 ++ (pm_i0_22 ++ (pm_i0_23 ++ (pm_i0_24 ++ (pm_i0_25 ++ (pm_i0_26 ++ (pm_i0_27))))))))) pc := (pm_q0_18 (by omega)).trans (pm_find_skip pm_i0_18 (pm_i0_19 ++ (pm_i0_20 ++ (pm_i0_21 ++ (pm_i0_22 ++ (pm_i0_23 ++ (pm_i0_24 ++ (pm_i0_25 ++ (pm_i0_26 ++ (pm_i0_27))))))))) pc (fun x hx => Nat.lt_of_lt_of_le ((by decide +kernel : ∀ x ∈ pm_i0_18, x.1 < 1518) x hx) h))
theorem pm_q0_20 {pc : Nat} (h : 1592 ≤ pc) : pm_find pm_i0 pc = pm_find (pm_i0_20 ++ (pm_i0_21 ++ (pm_i0_22 ++ (pm_i0_23 ++ (pm_i0_24 ++ (pm_i0_25 ++ (pm_i0_26 ++ (pm_i0_27)))))))) pc := (pm_q0_19 (by omega)).trans (pm_find_skip pm_i0_19 (pm_i0_20 ++ (pm_i0_21 ++ (pm_i0_22 ++ (pm_i0_23 ++ (pm_i0_24 ++ (pm_i0_25 ++ (pm_i0_26 ++ (pm_i0_27)))))))) pc (fun x hx => Nat.lt_of_lt_of_le ((by decide +kernel : ∀ x ∈ pm_i0_19, x.1 < 1592) x hx) h))
theorem pm_q0_21 {pc : Nat} (h : 1664 ≤ pc) : pm_find pm_i0 pc = pm_find (pm_i0_21 ++ (pm_i0_22 ++ (pm_i0_23 ++ (pm_i0_24 ++ (pm_i0_25 ++ (pm_i0_26 ++ (pm_i0_27))))))) pc := (pm_q0_20 (by omega)).trans (pm_find_skip pm_i0_20 (pm_i0_21 ++ (pm_i0_22 ++ (pm_i0_23 ++ (pm_i0_24 ++ (pm_i0_25 ++ (pm_i0_26 ++ (pm_i0_27))))))) pc (fun x hx => Nat.lt_of_lt_of_le ((by decide +kernel : ∀ x ∈ pm_i0_20, x.1 < 1664) x hx) h))
theorem pm_q0_22 {pc : Nat} (h : 1732 ≤ pc) : pm_find pm_i0 pc = pm_find (pm_i0_22 ++ (pm_i0_23 ++ (pm_i0_24 ++ (pm_i0_25 ++ (pm_i0_26 ++ (pm_i0_27)))))) pc := (pm_q0_21 (by omega)).trans (pm_find_skip pm_i0_21 (pm_i0_22 ++ (pm_i0_23 ++ (pm_i0_24 ++ (pm_i0_25 ++ (pm_i0_26 ++ (pm_i0_27)))))) pc (fun x hx => Nat.lt_of_lt_of_le ((by decide +kernel : ∀ x ∈ pm_i0_21, x.1 < 1732) x hx) h))
theorem pm_q0_23 {pc : Nat} (h : 1802 ≤ pc) : pm_find pm_i0 pc = pm_find (pm_i0_23 ++ (pm_i0_24 ++ (pm_i0_25 ++ (pm_i0_26 ++ (pm_i0_27))))) pc := (pm_q0_22 (by omega)).trans (pm_find_skip pm_i0_22 (pm_i0_23 ++ (pm_i0_24 ++ (pm_i0_25 ++ (pm_i0_26 ++ (pm_i0_27))))) pc (fun x hx => Nat.lt_of_lt_of_le ((by decide +kernel : ∀ x ∈ pm_i0_22, x.1 < 1802) x hx) h))
theorem pm_q0_24 {pc : Nat} (h : 1870 ≤ pc) : pm_find pm_i0 pc = pm_find (pm_i0_24 ++ (pm_i0_25 ++ (pm_i0_26 ++ (pm_i0_27)))) pc := (pm_q0_23 (by omega)).trans (pm_find_skip pm_i0_23 (pm_i0_24 ++ (pm_i0_25 ++ (pm_i0_26 ++ (pm_i0_27)))) pc (fun x hx => Nat.lt_of_lt_of_le ((by decide +kernel : ∀ x ∈ pm_i0_23, x.1 < 1870) x hx) h))
theorem pm_q0_25 {pc : Nat} (h : 1937 ≤ pc) : pm_find pm_i0 pc = pm_find (pm_i0_25 ++ (pm_i0_26 ++ (pm_i0_27))) pc := (pm_q0_24 (by omega)).trans (pm_find_skip pm_i0_24 (pm_i0_25 ++ (pm_i0_26 ++ (pm_i0_27))) pc (fun x hx => Nat.lt_of_lt_of_le ((by decide +kernel : ∀ x ∈ pm_i0_24, x.1 < 1937) x hx) h))
theorem pm_q0_26 {pc : Nat} (h : 2008 ≤ pc) : pm_find pm_i0 pc = pm_find (pm_i0_26 ++ (pm_i0_27)) pc := (pm_q0_25 (by omega)).trans (pm_find_skip pm_i0_25 (pm_i0_26 ++ (pm_i0_27)) pc (fun x hx => Nat.lt_of_lt_of_le ((by decide +kernel : ∀ x ∈ pm_i0_25, x.1 < 2008) x hx) h))
theorem pm_q0_27 {pc : Nat} (h : 2082 ≤ pc) : pm_find pm_i0 pc = pm_find (pm_i0_27) pc := (pm_q0_26 (by omega)).trans (pm_find_skip pm_i0_26 (pm_i0_27) pc (fun x hx => Nat.lt_of_lt_of_le ((by decide +kernel : ∀ x ∈ pm_i0_26, x.1 < 2082) x hx) h))
theorem pm_q10_1 {pc : Nat} (h : 116 ≤ pc) : pm_find pm_i10 pc = pm_find (pm_i10_1) pc := ((rfl : pm_find pm_i10 pc = pm_find (pm_i10_0 ++ (pm_i10_1)) pc)).trans (pm_find_skip pm_i10_0 (pm_i10_1) pc (fun x hx => Nat.lt_of_lt_of_le ((by decide +kernel : ∀ x ∈ pm_i10_0, x.1 < 116) x hx) h))
theorem pm_q15_1 {pc : Nat} (h : 128 ≤ pc) : pm_find pm_i15 pc = pm_find (pm_i15_1) pc := ((rfl : pm_find pm_i15 pc = pm_find (pm_i15_0 ++ (pm_i15_1)) pc)).trans (pm_find_skip pm_i15_0 (pm_i15_1) pc (fun x hx => Nat.lt_of_lt_of_le ((by decide +kernel : ∀ x ∈ pm_i15_0, x.1 < 128) x hx) h))
theorem pm_q16_1 {pc : Nat} (h : 122 ≤ pc) : pm_find pm_i16 pc = pm_find (pm_i16_1) pc := ((rfl : pm_find pm_i16 pc = pm_find (pm_i16_0 ++ (pm_i16_1)) pc)).trans (pm_find_skip pm_i16_0 (pm_i16_1) pc (fun x hx => Nat.lt_of_lt_of_le ((by decide +kernel : ∀ x ∈ pm_i16_0, x.1 < 122) x hx) h))
theorem pm_q37_1 {pc : Nat} (h : 109 ≤ pc) : pm_find pm_i37 pc = pm_find (pm_i37_1) pc := ((rfl : pm_find pm_i37 pc = pm_find (pm_i37_0 ++ (pm_i37_1)) pc)).trans (pm_find_skip pm_i37_0 (pm_i37_1) pc (fun x hx => Nat.lt_of_lt_of_le ((by decide +kernel : ∀ x ∈ pm_i37_0, x.1 < 109) x hx) h))
theorem pm_q39_1 {pc : Nat} (h : 100 ≤ pc) : pm_find pm_i39 pc = pm_find (pm_i39_1) pc := ((rfl : pm_find pm_i39 pc = pm_find (pm_i39_0 ++ (pm_i39_1)) pc)).trans (pm_find_skip pm_i39_0 (pm_i39_1) pc (fun x hx => Nat.lt_of_lt_of_le ((by decide +kernel : ∀ x ∈ pm_i39_0, x.1 < 100) x hx) h))
theorem pm_q44_1 {pc : Nat} (h : 113 ≤ pc) : pm_find pm_i44 pc = pm_find (pm_i44_1) pc := ((rfl : pm_find pm_i44 pc = pm_find (pm_i44_0 ++ (pm_i44_1)) pc)).trans (pm_find_skip pm_i44_0 (pm_i44_1) pc (fun x hx => Nat.lt_of_lt_of_le ((by decide +kernel : ∀ x ∈ pm_i44_0, x.1 < 113) x hx) h))
theorem pm_q46_1 {pc : Nat} (h : 101 ≤ pc) : pm_find pm_i46 pc = pm_find (pm_i46_1) pc := ((rfl : pm_find pm_i46 pc = pm_find (pm_i46_0 ++ (pm_i46_1)) pc)).trans (pm_find_skip pm_i46_0 (pm_i46_1) pc (fun x hx => Nat.lt_of_lt_of_le ((by decide +kernel : ∀ x ∈ pm_i46_0, x.1 < 101) x hx) h))
theorem pm_q48_1 {pc : Nat} (h : 108 ≤ pc) : pm_find pm_i48 pc = pm_find (pm_i48_1) pc := ((rfl : pm_find pm_i48 pc = pm_find (pm_i48_0 ++ (pm_i48_1)) pc)).trans (pm_find_skip pm_i48_0 (pm_i48_1) pc (fun x hx => Nat.lt_of_lt_of_le ((by decide +kernel : ∀ x ∈ pm_i48_0, x.1 < 108) x hx) h))
theorem pm_q59_1 {pc : Nat} (h : 102 ≤ pc) : pm_find pm_i59 pc = pm_find (pm_i59_1) pc := ((rfl : pm_find pm_i59 pc = pm_find (pm_i59_0 ++ (pm_i59_1)) pc)).trans (pm_find_skip pm_i59_0 (pm_i59_1) pc (fun x hx => Nat.lt_of_lt_of_le ((by decide +kernel : ∀ x ∈ pm_i59_0, x.1 < 102) x hx) h))
theorem pm_q86_1 {pc : Nat} (h : 101 ≤ pc) : pm_find pm_i86 pc = pm_find (pm_i86_1 ++ (pm_i86_2)) pc := ((rfl : pm_find pm_i86 pc = pm_find (pm_i86_0 ++ (pm_i86_1 ++ (pm_i86_2))) pc)).trans (pm_find_skip pm_i86_0 (pm_i86_1 ++ (pm_i86_2)) pc (fun x hx => Nat.lt_of_lt_of_le ((by decide +kernel : ∀ x ∈ pm_i86_0, x.1 < 101) x hx) h))
theorem pm_q86_2 {pc : Nat} (h : 207 ≤ pc) : pm_find pm_i86 pc = pm_find (pm_i86_2) pc := (pm_q86_1 (by omega)).trans (pm_find_skip pm_i86_1 (pm_i86_2) pc (fun x hx => Nat.lt_of_lt_of_le ((by decide +kernel : ∀ x ∈ pm_i86_1, x.1 < 207) x hx) h))
theorem pm_q87_1 {pc : Nat} (h : 114 ≤ pc) : pm_find pm_i87 pc = pm_find (pm_i87_1) pc := ((rfl : pm_find pm_i87 pc = pm_find (pm_i87_0 ++ (pm_i87_1)) pc)).trans (pm_find_skip pm_i87_0 (pm_i87_1) pc (fun x hx => Nat.lt_of_lt_of_le ((by decide +kernel : ∀ x ∈ pm_i87_0, x.1 < 114) x hx) h))
theorem pm_q90_1 {pc : Nat} (h : 115 ≤ pc) : pm_find pm_i90 pc = pm_find (pm_i90_1) pc := ((rfl : pm_find pm_i90 pc = pm_find (pm_i90_0 ++ (pm_i90_1)) pc)).trans (pm_find_skip pm_i90_0 (pm_i90_1) pc (fun x hx => Nat.lt_of_lt_of_le ((by decide +kernel : ∀ x ∈ pm_i90_0, x.1 < 115) x hx) h))
theorem pm_q92_1 {pc : Nat} (h : 113 ≤ pc) : pm_find pm_i92 pc = pm_find (pm_i92_1 ++ (pm_i92_2)) pc := ((rfl : pm_find pm_i92 pc = pm_find (pm_i92_0 ++ (pm_i92_1 ++ (pm_i92_2))) pc)).trans (pm_find_skip pm_i92_0 (pm_i92_1 ++ (pm_i92_2)) pc (fun x hx => Nat.lt_of_lt_of_le ((by decide +kernel : ∀ x ∈ pm_i92_0, x.1 < 113) x hx) h))
theorem pm_q92_2 {pc : Nat} (h : 219 ≤ pc) : pm_find pm_i92 pc = pm_find (pm_i92_2) pc := (pm_q92_1 (by omega)).trans (pm_find_skip pm_i92_1 (pm_i92_2) pc (fun x hx => Nat.lt_of_lt_of_le ((by decide +kernel : ∀ x ∈ pm_i92_1, x.1 < 219) x hx) h))
theorem pm_q95_1 {pc : Nat} (h : 107 ≤ pc) : pm_find pm_i95 pc = pm_find (pm_i95_1) pc := ((rfl : pm_find pm_i95 pc = pm_find (pm_i95_0 ++ (pm_i95_1)) pc)).trans (pm_find_skip pm_i95_0 (pm_i95_1) pc (fun x hx => Nat.lt_of_lt_of_le ((by decide +kernel : ∀ x ∈ pm_i95_0, x.1 < 107) x hx) h))
theorem pm_q96_1 {pc : Nat} (h : 106 ≤ pc) : pm_find pm_i96 pc = pm_find (pm_i96_1) pc := ((rfl : pm_find pm_i96 pc = pm_find (pm_i96_0 ++ (pm_i96_1)) pc)).trans (pm_find_skip pm_i96_0 (pm_i96_1) pc (fun x hx => Nat.lt_of_lt_of_le ((by decide +kernel : ∀ x ∈ pm_i96_0, x.1 < 106) x hx) h))
theorem pm_q103_1 {pc : Nat} (h : 104 ≤ pc) : pm_find pm_i103 pc = pm_find (pm_i103_1) pc := ((rfl : pm_find pm_i103 pc = pm_find (pm_i103_0 ++ (pm_i103_1)) pc)).trans (pm_find_skip pm_i103_0 (pm_i103_1) pc (fun x hx => Nat.lt_of_lt_of_le ((by decide +kernel : ∀ x ∈ pm_i103_0, x.1 < 104) x hx) h))
theorem pm_q120_1 {pc : Nat} (h : 120 ≤ pc) : pm_find pm_i120 pc = pm_find (pm_i120_1) pc := ((rfl : pm_find pm_i120 pc = pm_find (pm_i120_0 ++ (pm_i120_1)) pc)).trans (pm_find_skip pm_i120_0 (pm_i120_1) pc (fun x hx => Nat.lt_of_lt_of_le ((by decide +kernel : ∀ x ∈ pm_i120_0, x.1 < 120) x hx) h))
theorem pm_q125_1 {pc : Nat} (h : 110 ≤ pc) : pm_find pm_i125 pc = pm_find (pm_i125_1) pc := ((rfl : pm_find pm_i125 pc = pm_find (pm_i125_0 ++ (pm_i125_1)) pc)).trans (pm_find_skip pm_i125_0 (pm_i125_1) pc (fun x hx => Nat.lt_of_lt_of_le ((by decide +kernel : ∀ x ∈ pm_i125_0, x.1 < 110) x hx) h))
theorem pm_q127_1 {pc : Nat} (h : 101 ≤ pc) : pm_find pm_i127 pc = pm_find (pm_i127_1) pc := ((rfl : pm_find pm_i127 pc = pm_find (pm_i127_0 ++ (pm_i127_1)) pc)).trans (pm_find_skip pm_i127_0 (pm_i127_1) pc (fun x hx => Nat.lt_of_lt_of_le ((by decide +kernel : ∀ x ∈ pm_i127_0, x.1 < 101) x hx) h))
theorem pm_q129_1 {pc : Nat} (h : 107 ≤ pc) : pm_find pm_i129 pc = pm_find (pm_i129_1) pc := ((rfl : pm_find pm_i129 pc = pm_find (pm_i129_0 ++ (pm_i129_1)) pc)).trans (pm_find_skip pm_i129_0 (pm_i129_1) pc (fun x hx => Nat.lt_of_lt_of_le ((by decide +kernel : ∀ x ∈ pm_i129_0, x.1 < 107) x hx) h))
theorem pm_q130_1 {pc : Nat} (h : 84 ≤ pc) : pm_find pm_i130 pc = pm_find (pm_i130_1) pc := ((rfl : pm_find pm_i130 pc = pm_find (pm_i130_0 ++ (pm_i130_1)) pc)).trans (pm_find_skip pm_i130_0 (pm_i130_1) pc (fun x hx => Nat.lt_of_lt_of_le ((by decide +kernel : ∀ x ∈ pm_i130_0, x.1 < 84) x hx) h))
theorem pm_q150_1 {pc : Nat} (h : 114 ≤ pc) : pm_find pm_i150 pc = pm_find (pm_i150_1) pc := ((rfl : pm_find pm_i150 pc = pm_find (pm_i150_0 ++ (pm_i150_1)) pc)).trans (pm_find_skip pm_i150_0 (pm_i150_1) pc (fun x hx => Nat.lt_of_lt_of_le ((by decide +kernel : ∀ x ∈ pm_i150_0, x.1 < 114) x hx) h))
theorem pm_q165_1 {pc : Nat} (h : 105 ≤ pc) : pm_find pm_i165 pc = pm_find (pm_i165_1) pc := ((rfl : pm_find pm_i165 pc = pm_find (pm_i165_0 ++ (pm_i165_1)) pc)).trans (pm_find_skip pm_i165_0 (pm_i165_1) pc (fun x hx => Nat.lt_of_lt_of_le ((by decide +kernel : ∀ x ∈ pm_i165_0, x.1 < 105) x hx) h))
theorem pm_q166_1 {pc : Nat} (h : 132 ≤ pc) : pm_find pm_i166 pc = pm_find (pm_i166_1) pc := ((rfl : pm_find pm_i166 pc = pm_find (pm_i166_0 ++ (pm_i166_1)) pc)).trans (pm_find_skip pm_i166_0 (pm_i166_1) pc (fun x hx => Nat.lt_of_lt_of_le ((by decide +kernel : ∀ x ∈ pm_i166_0, x.1 < 132) x hx) h))
theorem pm_q170_1 {pc : Nat} (h : 123 ≤ pc) : pm_find pm_i170 pc = pm_find (pm_i170_1 ++ (pm_i170_2)) pc := ((rfl : pm_find pm_i170 pc = pm_find (pm_i170_0 ++ (pm_i170_1 ++ (pm_i170_2))) pc)).trans (pm_find_skip pm_i170_0 (pm_i170_1 ++ (pm_i170_2)) pc (fun x hx => Nat.lt_of_lt_of_le ((by decide +kernel : ∀ x ∈ pm_i170_0, x.1 < 123) x hx) h))
theorem pm_q170_2 {pc : Nat} (h : 242 ≤ pc) : pm_find pm_i170 pc = pm_find (pm_i170_2) pc := (pm_q170_1 (by omega)).trans (pm_find_skip pm_i170_1 (pm_i170_2) pc (fun x hx => Nat.lt_of_lt_of_le ((by decide +kernel : ∀ x ∈ pm_i170_1, x.1 < 242) x hx) h))
theorem pm_q175_1 {pc : Nat} (h : 99 ≤ pc) : pm_find pm_i175 pc = pm_find (pm_i175_1) pc := ((rfl : pm_find pm_i175 pc = pm_find (pm_i175_0 ++ (pm_i175_1)) pc)).trans (pm_find_skip pm_i175_0 (pm_i175_1) pc (fun x hx => Nat.lt_of_lt_of_le ((by decide +kernel : ∀ x ∈ pm_i175_0, x.1 < 99) x hx) h))
theorem pm_q178_1 {pc : Nat} (h : 106 ≤ pc) : pm_find pm_i178 pc = pm_find (pm_i178_1) pc := ((rfl : pm_find pm_i178 pc = pm_find (pm_i178_0 ++ (pm_i178_1)) pc)).trans (pm_find_skip pm_i178_0 (pm_i178_1) pc (fun x hx => Nat.lt_of_lt_of_le ((by decide +kernel : ∀ x ∈ pm_i178_0, x.1 < 106) x hx) h))
theorem pm_q179_1 {pc : Nat} (h : 115 ≤ pc) : pm_find pm_i179 pc = pm_find (pm_i179_1 ++ (pm_i179_2)) pc := ((rfl : pm_find pm_i179 pc = pm_find (pm_i179_0 ++ (pm_i179_1 ++ (pm_i179_2))) pc)).trans (pm_find_skip pm_i179_0 (pm_i179_1 ++ (pm_i179_2)) pc (fun x hx => Nat.lt_of_lt_of_le ((by decide +kernel : ∀ x ∈ pm_i179_0, x.1 < 115) x hx) h))
theorem pm_q179_2 {pc : Nat} (h : 234 ≤ pc) : pm_find pm_i179 pc = pm_find (pm_i179_2) pc := (pm_q179_1 (by omega)).trans (pm_find_skip pm_i179_1 (pm_i179_2) pc (fun x hx => Nat.lt_of_lt_of_le ((by decide +kernel : ∀ x ∈ pm_i179_1, x.1 < 234) x hx) h))
theorem pm_q187_1 {pc : Nat} (h : 108 ≤ pc) : pm_find pm_i187 pc = pm_find (pm_i187_1 ++ (pm_i187_2)) pc := ((rfl : pm_find pm_i187 pc = pm_find (pm_i187_0 ++ (pm_i187_1 ++ (pm_i187_2))) pc)).trans (pm_find_skip pm_i187_0 (pm_i187_1 ++ (pm_i187_2)) pc (fun x hx => Nat.lt_of_lt_of_le ((by decide +kernel : ∀ x ∈ pm_i187_0, x.1 < 108) x hx) h))
theorem pm_q187_2 {pc : Nat} (h : 207 ≤ pc) : pm_find pm_i187 pc = pm_find (pm_i187_2) pc := (pm_q187_1 (by omega)).trans (pm_find_skip pm_i187_1 (pm_i187_2) pc (fun x hx => Nat.lt_of_lt_of_le ((by decide +kernel : ∀ x ∈ pm_i187_1, x.1 < 207) x hx) h))
theorem pm_q189_1 {pc : Nat} (h : 113 ≤ pc) : pm_find pm_i189 pc = pm_find (pm_i189_1 ++ (pm_i189_2)) pc := ((rfl : pm_find pm_i189 pc = pm_find (pm_i189_0 ++ (pm_i189_1 ++ (pm_i189_2))) pc)).trans (pm_find_skip pm_i189_0 (pm_i189_1 ++ (pm_i189_2)) pc (fun x hx => Nat.lt_of_lt_of_le ((by decide +kernel : ∀ x ∈ pm_i189_0, x.1 < 113) x hx) h))
theorem pm_q189_2 {pc : Nat} (h : 218 ≤ pc) : pm_find pm_i189 pc = pm_find (pm_i189_2) pc := (pm_q189_1 (by omega)).trans (pm_find_skip pm_i189_1 (pm_i189_2) pc (fun x hx => Nat.lt_of_lt_of_le ((by decide +kernel : ∀ x ∈ pm_i189_1, x.1 < 218) x hx) h))
theorem pm_q192_1 {pc : Nat} (h : 115 ≤ pc) : pm_find pm_i192 pc = pm_find (pm_i192_1) pc := ((rfl : pm_find pm_i192 pc = pm_find (pm_i192_0 ++ (pm_i192_1)) pc)).trans (pm_find_skip pm_i192_0 (pm_i192_1) pc (fun x hx => Nat.lt_of_lt_of_le ((by decide +kernel : ∀ x ∈ pm_i192_0, x.1 < 115) x hx) h))
theorem pm_q202_1 {pc : Nat} (h : 105 ≤ pc) : pm_find pm_i202 pc = pm_find (pm_i202_1) pc := ((rfl : pm_find pm_i202 pc = pm_find (pm_i202_0 ++ (pm_i202_1)) pc)).trans (pm_find_skip pm_i202_0 (pm_i202_1) pc (fun x hx => Nat.lt_of_lt_of_le ((by decide +kernel : ∀ x ∈ pm_i202_0, x.1 < 105) x hx) h))
theorem pm_q216_1 {pc : Nat} (h : 106 ≤ pc) : pm_find pm_i216 pc = pm_find (pm_i216_1) pc := ((rfl : pm_find pm_i216 pc = pm_find (pm_i216_0 ++ (pm_i216_1)) pc)).trans (pm_find_skip pm_i216_0 (pm_i216_1) pc (fun x hx => Nat.lt_of_lt_of_le ((by decide +kernel : ∀ x ∈ pm_i216_0, x.1 < 106) x hx) h))
theorem pm_q224_1 {pc : Nat} (h : 102 ≤ pc) : pm_find pm_i224 pc = pm_find (pm_i224_1) pc := ((rfl : pm_find pm_i224 pc = pm_find (pm_i224_0 ++ (pm_i224_1)) pc)).trans (pm_find_skip pm_i224_0 (pm_i224_1) pc (fun x hx => Nat.lt_of_lt_of_le ((by decide +kernel : ∀ x ∈ pm_i224_0, x.1 < 102) x hx) h))
theorem pm_q226_1 {pc : Nat} (h : 106 ≤ pc) : pm_find pm_i226 pc = pm_find (pm_i226_1) pc := ((rfl : pm_find pm_i226 pc = pm_find (pm_i226_0 ++ (pm_i226_1)) pc)).trans (pm_find_skip pm_i226_0 (pm_i226_1) pc (fun x hx => Nat.lt_of_lt_of_le ((by decide +kernel : ∀ x ∈ pm_i226_0, x.1 < 106) x hx) h))
theorem pm_q228_1 {pc : Nat} (h : 106 ≤ pc) : pm_find pm_i228 pc = pm_find (pm_i228_1) pc := ((rfl : pm_find pm_i228 pc = pm_find (pm_i228_0 ++ (pm_i228_1)) pc)).trans (pm_find_skip pm_i228_0 (pm_i228_1) pc (fun x hx => Nat.lt_of_lt_of_le ((by decide +kernel : ∀ x ∈ pm_i228_0, x.1 < 106) x hx) h))
theorem pm_q229_1 {pc : Nat} (h : 111 ≤ pc) : pm_find pm_i229 pc = pm_find (pm_i229_1) pc := ((rfl : pm_find pm_i229 pc = pm_find (pm_i229_0 ++ (pm_i229_1)) pc)).trans (pm_find_skip pm_i229_0 (pm_i229_1) pc (fun x hx => Nat.lt_of_lt_of_le ((by decide +kernel : ∀ x ∈ pm_i229_0, x.1 < 111) x hx) h))
theorem pm_q232_1 {pc : Nat} (h : 108 ≤ pc) : pm_find pm_i232 pc = pm_find (pm_i232_1) pc := ((rfl : pm_find pm_i232 pc = pm_find (pm_i232_0 ++ (pm_i232_1)) pc)).trans (pm_find_skip pm_i232_0 (pm_i232_1) pc (fun x hx => Nat.lt_of_lt_of_le ((by decide +kernel : ∀ x ∈ pm_i232_0, x.1 < 108) x hx) h))
theorem pm_q251_1 {pc : Nat} (h : 107 ≤ pc) : pm_find pm_i251 pc = pm_find (pm_i251_1) pc := ((rfl : pm_find pm_i251 pc = pm_find (pm_i251_0 ++ (pm_i251_1)) pc)).trans (pm_find_skip pm_i251_0 (pm_i251_1) pc (fun x hx => Nat.lt_of_lt_of_le ((by decide +kernel : ∀ x ∈ pm_i251_0, x.1 < 107) x hx) h))
theorem pm_q253_1 {pc : Nat} (h : 110 ≤ pc) : pm_find pm_i253 pc = pm_find (pm_i253_1) pc := ((rfl : pm_find pm_i253 pc = pm_find (pm_i253_0 ++ (pm_i253_1)) pc)).trans (pm_find_skip pm_i253_0 (pm_i253_1) pc (fun x hx => Nat.lt_of_lt_of_le ((by decide +kernel : ∀ x ∈ pm_i253_0, x.1 < 110) x hx) h))
theorem pm_q254_1 {pc : Nat} (h : 98 ≤ pc) : pm_find pm_i254 pc = pm_find (pm_i254_1 ++ (pm_i254_2)) pc := ((rfl : pm_find pm_i254 pc = pm_find (pm_i254_0 ++ (pm_i254_1 ++ (pm_i254_2))) pc)).trans (pm_find_skip pm_i254_0 (pm_i254_1 ++ (pm_i254_2)) pc (fun x hx => Nat.lt_of_lt_of_le ((by decide +kernel : ∀ x ∈ pm_i254_0, x.1 < 98) x hx) h))
theorem pm_q254_2 {pc : Nat} (h : 197 ≤ pc) : pm_find pm_i254 pc = pm_find (pm_i254_2) pc := (pm_q254_1 (by omega)).trans (pm_find_skip pm_i254_1 (pm_i254_2) pc (fun x hx => Nat.lt_of_lt_of_le ((by decide +kernel : ∀ x ∈ pm_i254_1, x.1 < 197) x hx) h))
theorem pm_q261_1 {pc : Nat} (h : 110 ≤ pc) : pm_find pm_i261 pc = pm_find (pm_i261_1) pc := ((rfl : pm_find pm_i261 pc = pm_find (pm_i261_0 ++ (pm_i261_1)) pc)).trans (pm_find_skip pm_i261_0 (pm_i261_1) pc (fun x hx => Nat.lt_of_lt_of_le ((by decide +kernel : ∀ x ∈ pm_i261_0, x.1 < 110) x hx) h))
theorem pm_q264_1 {pc : Nat} (h : 108 ≤ pc) : pm_find pm_i264 pc = pm_find (pm_i264_1) pc := ((rfl : pm_find pm_i264 pc = pm_find (pm_i264_0 ++ (pm_i264_1)) pc)).trans (pm_find_skip pm_i264_0 (pm_i264_1) pc (fun x hx => Nat.lt_of_lt_of_le ((by decide +kernel : ∀ x ∈ pm_i264_0, x.1 < 108) x hx) h))
theorem pm_q266_1 {pc : Nat} (h : 115 ≤ pc) : pm_find pm_i266 pc = pm_find (pm_i266_1) pc := ((rfl : pm_find pm_i266 pc = pm_find (pm_i266_0 ++ (pm_i266_1)) pc)).trans (pm_find_skip pm_i266_0 (pm_i266_1) pc (fun x hx => Nat.lt_of_lt_of_le ((by decide +kernel : ∀ x ∈ pm_i266_0, x.1 < 115) x hx) h))
theorem pm_q277_1 {pc : Nat} (h : 132 ≤ pc) : pm_find pm_i277 pc = pm_find (pm_i277_1) pc := ((rfl : pm_find pm_i277 pc = pm_find (pm_i277_0 ++ (pm_i277_1)) pc)).trans (pm_find_skip pm_i277_0 (pm_i277_1) pc (fun x hx => Nat.lt_of_lt_of_le ((by decide +kernel : ∀ x ∈ pm_i277_0, x.1 < 132) x hx) h))
theorem pm_q284_1 {pc : Nat} (h : 108 ≤ pc) : pm_find pm_i284 pc = pm_find (pm_i284_1) pc := ((rfl : pm_find pm_i284 pc = pm_find (pm_i284_0 ++ (pm_i284_1)) pc)).trans (pm_find_skip pm_i284_0 (pm_i284_1) pc (fun x hx => Nat.lt_of_lt_of_le ((by decide +kernel : ∀ x ∈ pm_i284_0, x.1 < 108) x hx) h))
theorem pm_q287_1 {pc : Nat} (h : 103 ≤ pc) : pm_find pm_i287 pc = pm_find (pm_i287_1) pc := ((rfl : pm_find pm_i287 pc = pm_find (pm_i287_0 ++ (pm_i287_1)) pc)).trans (pm_find_skip pm_i287_0 (pm_i287_1) pc (fun x hx => Nat.lt_of_lt_of_le ((by decide +kernel : ∀ x ∈ pm_i287_0, x.1 < 103) x hx) h))
theorem pm_q288_1 {pc : Nat} (h : 106 ≤ pc) : pm_find pm_i288 pc = pm_find (pm_i288_1) pc := ((rfl : pm_find pm_i288 pc = pm_find (pm_i288_0 ++ (pm_i288_1)) pc)).trans (pm_find_skip pm_i288_0 (pm_i288_1) pc (fun x hx => Nat.lt_of_lt_of_le ((by decide +kernel : ∀ x ∈ pm_i288_0, x.1 < 106) x hx) h))
theorem pm_q291_1 {pc : Nat} (h : 105 ≤ pc) : pm_find pm_i291 pc = pm_find (pm_i291_1) pc := ((rfl : pm_find pm_i291 pc = pm_find (pm_i291_0 ++ (pm_i291_1)) pc)).trans (pm_find_skip pm_i291_0 (pm_i291_1) pc (fun x hx => Nat.lt_of_lt_of_le ((by decide +kernel : ∀ x ∈ pm_i291_0, x.1 < 105) x hx) h))
theorem pm_q296_1 {pc : Nat} (h : 103 ≤ pc) : pm_find pm_i296 pc = pm_find (pm_i296_1) pc := ((rfl : pm_find pm_i296 pc = pm_find (pm_i296_0 ++ (pm_i296_1)) pc)).trans (pm_find_skip pm_i296_0 (pm_i296_1) pc (fun x hx => Nat.lt_of_lt_of_le ((by decide +kernel : ∀ x ∈ pm_i296_0, x.1 < 103) x hx) h))
