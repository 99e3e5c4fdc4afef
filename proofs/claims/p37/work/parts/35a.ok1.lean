/-! ===== the tables of instructions are the program's, 1 ===== -/
set_option maxRecDepth 100000 in
theorem a_o0 : a_mb a_z0 = true ∧ a_c0.all (a_okb a_Z a_m0) = true := a_wk0 (by decide +kernel)
set_option maxRecDepth 100000 in
theorem a_o1 : a_mb a_z1 = true ∧ a_c1.all (a_okb a_Z a_m1) = true := a_wk0 (by decide +kernel)
set_option maxRecDepth 100000 in
theorem a_o2 : a_mb a_z2 = true ∧ a_c2.all (a_okb a_Z a_m2) = true := a_wk0 (by decide +kernel)
set_option maxRecDepth 100000 in
theorem a_o3 : a_mb a_z3 = true ∧ a_c3.all (a_okb a_Z a_m3) = true := a_wk0 (by decide +kernel)
set_option maxRecDepth 100000 in
theorem a_o4 : a_mb a_z4 = true ∧ a_c4.all (a_okb a_Z a_m4) = true := a_wk0 (by decide +kernel)
set_option maxRecDepth 100000 in
theorem a_o5 : a_mb a_z5 = true ∧ a_c5.all (a_okb a_Z a_m5) = true := a_wk0 (by decide +kernel)
set_option maxRecDepth 100000 in
theorem a_o6 : a_mb a_z6 = true ∧ a_c6.all (a_okb a_Z a_m6) = true := a_wk0 (by decide +kernel)
set_option maxRecDepth 100000 in
theorem a_o7 : a_mb a_z7 = true ∧ a_c7.all (a_okb a_Z a_m7) = true := a_wk0 (by decide +kernel)
set_option maxRecDepth 100000 in
theorem a_o8 : a_mb a_z8 = true ∧ a_c8.all (a_okb a_Z a_m8) = true := a_wk0 (by decide +kernel)
set_option maxRecDepth 100000 in
theorem a_o9 : a_mb a_z9 = true ∧ a_c9.all (a_okb a_Z a_m9) = true := a_wk0 (by decide +kernel)
set_option maxRecDepth 100000 in
theorem a_o10 : a_mb a_z10 = true ∧ a_c10.all (a_okb a_Z a_m10) = true := a_wk0 (by decide +kernel)
set_option maxRecDepth 100000 in
theorem a_o11 : a_mb a_z11 = true ∧ a_c11.all (a_okb a_Z a_m11) = true := a_wk0 (by decide +kernel)
set_option maxRecDepth 100000 in
theorem a_o12 : a_mb a_z12 = true ∧ a_c12.all (a_okb a_Z a_m12) = true := a_wk0 (by decide +kernel)
set_option maxRecDepth 100000 in
theorem a_o13 : a_mb a_z13 = true ∧ a_c13.all (a_okb a_Z a_m13) = true := a_wk0 (by decide +kernel)
set_option maxRecDepth 100000 in
theorem a_o14 : a_mb a_z14 = true ∧ a_c14.all (a_okb a_Z a_m14) = true := a_wk0 (by decide +kernel)
set_option maxRecDepth 100000 in
theorem a_o15 : a_mb a_z15 = true ∧ a_c15.all (a_okb a_Z a_m15) = true := a_wk0 (by decide +kernel)
set_option maxRecDepth 100000 in
theorem a_o16 : a_mb a_z16 = true ∧ a_c16.all (a_okb a_Z a_m16) = true := a_wk0 (by decide +kernel)
set_option maxRecDepth 100000 in
theorem a_o17 : a_mb a_z17 = true ∧ a_c17.all (a_okb a_Z a_m17) = true := a_wk0 (by decide +kernel)
set_option maxRecDepth 100000 in
theorem a_o18 : a_mb a_z18 = true ∧ a_c18.all (a_okb a_Z a_m18) = true := a_wk0 (by decide +kernel)
set_option maxRecDepth 100000 in
theorem a_o19 : a_mb a_z19 = true ∧ a_c19.all (a_okb a_Z a_m19) = true := a_wk0 (by decide +kernel)
set_option maxRecDepth 100000 in
theorem a_o20 : a_mb a_z20 = true ∧ a_c20.all (a_okb a_Z a_m20) = true := a_wk0 (by decide +kernel)
set_option maxRecDepth 100000 in
theorem a_o21 : a_mb a_z21 = true ∧ a_c21.all (a_okb a_Z a_m21) = true := a_wk0 (by decide +kernel)
set_option maxRecDepth 100000 in
theorem a_o22 : a_mb a_z22 = true ∧ a_c22.all (a_okb a_Z a_m22) = true := a_wk0 (by decide +kernel)
set_option maxRecDepth 100000 in
theorem a_o23 : a_mb a_z23 = true ∧ a_c23.all (a_okb a_Z a_m23) = true := a_wk0 (by decide +kernel)
set_option maxRecDepth 100000 in
theorem a_o24 : a_mb a_z24 = true ∧ a_c24.all (a_okb a_Z a_m24) = true := a_wk0 (by decide +kernel)
set_option maxRecDepth 100000 in
theorem a_o25 : a_mb a_z25 = true ∧ a_c25.all (a_okb a_Z a_m25) = true := a_wk0 (by decide +kernel)
set_option maxRecDepth 100000 in
theorem a_o26 : a_mb a_z26 = true ∧ a_c26.all (a_okb a_Z a_m26) = true := a_wk0 (by decide +kernel)
set_option maxRecDepth 100000 in
theorem a_o27 : a_mb a_z27 = true ∧ a_c27.all (a_okb a_Z a_m27) = true := a_wk0 (by decide +kernel)
set_option maxRecDepth 100000 in
theorem a_o28 : a_mb a_z28 = true ∧ a_c28.all (a_okb a_Z a_m28) = true := a_wk0 (by decide +kernel)
set_option maxRecDepth 100000 in
theorem a_o29 : a_mb a_z29 = true ∧ a_c29.all (a_okb a_Z a_m29) = true := a_wk0 (by decide +kernel)
set_option maxRecDepth 100000 in
theorem a_o30 : a_mb a_z30 = true ∧ a_c30.all (a_okb a_Z a_m30) = true := a_wk0 (by decide +kernel)
set_option maxRecDepth 100000 in
theorem a_o31 : a_mb a_z31 = true ∧ a_c31.all (a_okb a_Z a_m31) = true := a_wk0 (by decide +kernel)
set_option maxRecDepth 100000 in
theorem a_o32 : a_mb a_z32 = true ∧ a_c32.all (a_okb a_Z a_m32) = true := a_wk0 (by decide +kernel)
set_option maxRecDepth 100000 in
theorem a_o33 : a_mb a_z33 = true ∧ a_c33.all (a_okb a_Z a_m33) = true := a_wk0 (by decide +kernel)
set_option maxRecDepth 100000 in
theorem a_o34 : a_mb a_z34 = true ∧ a_c34.all (a_okb a_Z a_m34) = true := a_wk0 (by decide +kernel)
set_option maxRecDepth 100000 in
theorem a_o35 : a_mb a_z35 = true ∧ a_c35.all (a_okb a_Z a_m35) = true := a_wk0 (by decide +kernel)
set_option maxRecDepth 100000 in
theorem a_o36 : a_mb a_z36 = true ∧ a_c36.all (a_okb a_Z a_m36) = true := a_wk0 (by decide +kernel)
set_option maxRecDepth 100000 in
theorem a_o37 : a_mb a_z37 = true ∧ a_c37.all (a_okb a_Z a_m37) = true := a_wk0 (by decide +kernel)
set_option maxRecDepth 100000 in
theorem a_o38 : a_mb a_z38 = true ∧ a_c38.all (a_okb a_Z a_m38) = true := a_wk0 (by decide +kernel)
set_option maxRecDepth 100000 in
theorem a_o39 : a_mb a_z39 = true ∧ a_c39.all (a_okb a_Z a_m39) = true := a_wk0 (by decide +kernel)
set_option maxRecDepth 100000 in
theorem a_o40 : a_mb a_z40 = true ∧ a_c40.all (a_okb a_Z a_m40) = true := a_wk0 (by decide +kernel)
set_option maxRecDepth 100000 in
theorem a_o41 : a_mb a_z41 = true ∧ a_c41.all (a_okb a_Z a_m41) = true := a_wk0 (by decide +kernel)
set_option maxRecDepth 100000 in
theorem a_o42 : a_mb a_z42 = true ∧ a_c42.all (a_okb a_Z a_m42) = true := a_wk0 (by decide +kernel)
set_option maxRecDepth 100000 in
theorem a_o43 : a_mb a_z43 = true ∧ a_c43.all (a_okb a_Z a_m43) = true := a_wk0 (by decide +kernel)
set_option maxRecDepth 100000 in
theorem a_o44 : a_mb a_z44 = true ∧ a_c44.all (a_okb a_Z a_m44) = true := a_wk0 (by decide +kernel)
set_option maxRecDepth 100000 in
theorem a_o45 : a_mb a_z45 = true ∧ a_c45.all (a_okb a_Z a_m45) = true := a_wk0 (by decide +kernel)
set_option maxRecDepth 100000 in
theorem a_o46 : a_mb a_z46 = true ∧ a_c46.all (a_okb a_Z a_m46) = true := a_wk0 (by decide +kernel)
set_option maxRecDepth 100000 in
theorem a_o47 : a_mb a_z47 = true ∧ a_c47.all (a_okb a_Z a_m47) = true := a_wk0 (by decide +kernel)
set_option maxRecDepth 100000 in
theorem a_o48 : a_mb a_z48 = true ∧ a_c48.all (a_okb a_Z a_m48) = true := a_wk0 (by decide +kernel)
set_option maxRecDepth 100000 in
theorem a_o49 : a_mb a_z49 = true ∧ a_c49.all (a_okb a_Z a_m49) = true := a_wk0 (by decide +kernel)
set_option maxRecDepth 100000 in
theorem a_o50 : a_mb a_z50 = true ∧ a_c50.all (a_okb a_Z a_m50) = true := a_wk0 (by decide +kernel)
set_option maxRecDepth 100000 in
theorem a_o51 : a_mb a_z51 = true ∧ a_c51.all (a_okb a_Z a_m51) = true := a_wk0 (by decide +kernel)
set_option maxRecDepth 100000 in
theorem a_o52 : a_mb a_z52 = true ∧ a_c52.all (a_okb a_Z a_m52) = true := a_wk0 (by decide +kernel)
set_option maxRecDepth 100000 in
theorem a_o53 : a_mb a_z53 = true ∧ a_c53.all (a_okb a_Z a_m53) = true := a_wk0 (by decide +kernel)
set_option maxRecDepth 100000 in
theorem a_o54 : a_mb a_z54 = true ∧ a_c54.all (a_okb a_Z a_m54) = true := a_wk0 (by decide +kernel)
set_option maxRecDepth 100000 in
theorem a_o55 : a_mb a_z55 = true ∧ a_c55.all (a_okb a_Z a_m55) = true := a_wk0 (by decide +kernel)
set_option maxRecDepth 100000 in
theorem a_o56 : a_mb a_z56 = true ∧ a_c56.all (a_okb a_Z a_m56) = true := a_wk0 (by decide +kernel)
set_option maxRecDepth 100000 in
theorem a_o57 : a_mb a_z57 = true ∧ a_c57.all (a_okb a_Z a_m57) = true := a_wk0 (by decide +kernel)
set_option maxRecDepth 100000 in
theorem a_o58 : a_mb a_z58 = true ∧ a_c58.all (a_okb a_Z a_m58) = true := a_wk0 (by decide +kernel)
set_option maxRecDepth 100000 in
theorem a_o59 : a_mb a_z59 = true ∧ a_c59.all (a_okb a_Z a_m59) = true := a_wk0 (by decide +kernel)
set_option maxRecDepth 100000 in
theorem a_o60 : a_mb a_z60 = true ∧ a_c60.all (a_okb a_Z a_m60) = true := a_wk0 (by decide +kernel)
set_option maxRecDepth 100000 in
theorem a_o61 : a_mb a_z61 = true ∧ a_c61.all (a_okb a_Z a_m61) = true := a_wk0 (by decide +kernel)
set_option maxRecDepth 100000 in
theorem a_o62 : a_mb a_z62 = true ∧ a_c62.all (a_okb a_Z a_m62) = true := a_wk0 (by decide +kernel)
set_option maxRecDepth 100000 in
theorem a_o63 : a_mb a_z63 = true ∧ a_c63.all (a_okb a_Z a_m63) = true := a_wk0 (by decide +kernel)
set_option maxRecDepth 100000 in
theorem a_o64 : a_mb a_z64 = true ∧ a_c64.all (a_okb a_Z a_m64) = true := a_wk0 (by decide +kernel)
set_option maxRecDepth 100000 in
theorem a_o65 : a_mb a_z65 = true ∧ a_c65.all (a_okb a_Z a_m65) = true := a_wk0 (by decide +kernel)
set_option maxRecDepth 100000 in
theorem a_o66 : a_mb a_z66 = true ∧ a_c66.all (a_okb a_Z a_m66) = true := a_wk0 (by decide +kernel)
set_option maxRecDepth 100000 in
theorem a_o67 : a_mb a_z67 = true ∧ a_c67.all (a_okb a_Z a_m67) = true := a_wk0 (by decide +kernel)
set_option maxRecDepth 100000 in
theorem a_o68 : a_mb a_z68 = true ∧ a_c68.all (a_okb a_Z a_m68) = true := a_wk0 (by decide +kernel)
set_option maxRecDepth 100000 in
theorem a_o69 : a_mb a_z69 = true ∧ a_c69.all (a_okb a_Z a_m69) = true := a_wk0 (by decide +kernel)
set_option maxRecDepth 100000 in
theorem a_o70 : a_mb a_z70 = true ∧ a_c70.all (a_okb a_Z a_m70) = true := a_wk0 (by decide +kernel)
set_option maxRecDepth 100000 in
theorem a_o71 : a_mb a_z71 = true ∧ a_c71.all (a_okb a_Z a_m71) = true := a_wk0 (by decide +kernel)
set_option maxRecDepth 100000 in
theorem a_o72 : a_mb a_z72 = true ∧ a_c72.all (a_okb a_Z a_m72) = true := a_wk0 (by decide +kernel)
set_option maxRecDepth 100000 in
theorem a_o73 : a_mb a_z73 = true ∧ a_c73.all (a_okb a_Z a_m73) = true := a_wk0 (by decide +kernel)
set_option maxRecDepth 100000 in
theorem a_o74 : a_mb a_z74 = true ∧ a_c74.all (a_okb a_Z a_m74) = true := a_wk0 (by decide +kernel)
set_option maxRecDepth 100000 in
theorem a_o75 : a_mb a_z75 = true ∧ a_c75.all (a_okb a_Z a_m75) = true := a_wk0 (by decide +kernel)
set_option maxRecDepth 100000 in
theorem a_o76 : a_mb a_z76 = true ∧ a_c76.all (a_okb a_Z a_m76) = true := a_wk0 (by decide +kernel)
set_option maxRecDepth 100000 in
theorem a_o77 : a_mb a_z77 = true ∧ a_c77.all (a_okb a_Z a_m77) = true := a_wk0 (by decide +kernel)
set_option maxRecDepth 100000 in
theorem a_o78 : a_mb a_z78 = true ∧ a_c78.all (a_okb a_Z a_m78) = true := a_wk0 (by decide +kernel)
set_option maxRecDepth 100000 in
theorem a_o79 : a_mb a_z79 = true ∧ a_c79.all (a_okb a_Z a_m79) = true := a_wk0 (by decide +kernel)
set_option maxRecDepth 100000 in
theorem a_o80 : a_mb a_z80 = true ∧ a_c80.all (a_okb a_Z a_m80) = true := a_wk0 (by decide +kernel)
set_option maxRecDepth 100000 in
theorem a_o81 : a_mb a_z81 = true ∧ a_c81.all (a_okb a_Z a_m81) = true := a_wk0 (by decide +kernel)
set_option maxRecDepth 100000 in
theorem a_o82 : a_mb a_z82 = true ∧ a_c82.all (a_okb a_Z a_m82) = true := a_wk0 (by decide +kernel)
set_option maxRecDepth 100000 in
theorem a_o83 : a_mb a_z83 = true ∧ a_c83.all (a_okb a_Z a_m83) = true := a_wk0 (by decide +kernel)
set_option maxRecDepth 100000 in
theorem a_o84 : a_mb a_z84 = true ∧ a_c84.all (a_okb a_Z a_m84) = true := a_wk0 (by decide +kernel)
set_option maxRecDepth 100000 in
theorem a_o85 : a_mb a_z85 = true ∧ a_c85.all (a_okb a_Z a_m85) = true := a_wk0 (by decide +kernel)
set_option maxRecDepth 100000 in
theorem a_o86 : a_mb a_z86 = true ∧ a_c86.all (a_okb a_Z a_m86) = true := a_wk0 (by decide +kernel)
set_option maxRecDepth 100000 in
theorem a_o87 : a_mb a_z87 = true ∧ a_c87.all (a_okb a_Z a_m87) = true := a_wk0 (by decide +kernel)
set_option maxRecDepth 100000 in
theorem a_o88 : a_mb a_z88 = true ∧ a_c88.all (a_okb a_Z a_m88) = true := a_wk0 (by decide +kernel)
set_option maxRecDepth 100000 in
theorem a_o89 : a_mb a_z89 = true ∧ a_c89.all (a_okb a_Z a_m89) = true := a_wk0 (by decide +kernel)
set_option maxRecDepth 100000 in
theorem a_o90 : a_mb a_z90 = true ∧ a_c90.all (a_okb a_Z a_m90) = true := a_wk0 (by decide +kernel)
set_option maxRecDepth 100000 in
theorem a_o91 : a_mb a_z91 = true ∧ a_c91.all (a_okb a_Z a_m91) = true := a_wk0 (by decide +kernel)
set_option maxRecDepth 100000 in
theorem a_o92 : a_mb a_z92 = true ∧ a_c92.all (a_okb a_Z a_m92) = true := a_wk0 (by decide +kernel)
set_option maxRecDepth 100000 in
theorem a_o93 : a_mb a_z93 = true ∧ a_c93.all (a_okb a_Z a_m93) = true := a_wk0 (by decide +kernel)
set_option maxRecDepth 100000 in
theorem a_o94 : a_mb a_z94 = true ∧ a_c94.all (a_okb a_Z a_m94) = true := a_wk0 (by decide +kernel)
set_option maxRecDepth 100000 in
theorem a_o95 : a_mb a_z95 = true ∧ a_c95.all (a_okb a_Z a_m95) = true := a_wk0 (by decide +kernel)
set_option maxRecDepth 100000 in
theorem a_o96 : a_mb a_z96 = true ∧ a_c96.all (a_okb a_Z a_m96) = true := a_wk0 (by decide +kernel)
set_option maxRecDepth 100000 in
theorem a_o97 : a_mb a_z97 = true ∧ a_c97.all (a_okb a_Z a_m97) = true := a_wk0 (by decide +kernel)
set_option maxRecDepth 100000 in
theorem a_o98 : a_mb a_z98 = true ∧ a_c98.all (a_okb a_Z a_m98) = true := a_wk0 (by decide +kernel)
set_option maxRecDepth 100000 in
theorem a_o99 : a_mb a_z99 = true ∧ a_c99.all (a_okb a_Z a_m99) = true := a_wk0 (by decide +kernel)
