/-! ===== the law's own instructions, in stretches of 60 ===== -/
theorem a_stretch {α : Type} (p : α → Bool) (l : List α) (a n : Nat) (h1 : ((l.drop a).take n).all p = true) (h2 : (l.drop (a + n)).all p = true) : (l.drop a).all p = true := by
  have e := List.take_append_drop n (l.drop a)
  rw [List.drop_drop] at e
  rw [← e, List.all_append, h1, h2]; rfl
set_option maxRecDepth 100000 in
theorem a_oL0 : ((a_cL.drop 0).take 60).all (a_okb a_Z a_mL) = true := by decide +kernel
set_option maxRecDepth 100000 in
theorem a_oL1 : ((a_cL.drop 60).take 60).all (a_okb a_Z a_mL) = true := by decide +kernel
set_option maxRecDepth 100000 in
theorem a_oL2 : ((a_cL.drop 120).take 60).all (a_okb a_Z a_mL) = true := by decide +kernel
set_option maxRecDepth 100000 in
theorem a_oL3 : ((a_cL.drop 180).take 60).all (a_okb a_Z a_mL) = true := by decide +kernel
set_option maxRecDepth 100000 in
theorem a_oL4 : ((a_cL.drop 240).take 60).all (a_okb a_Z a_mL) = true := by decide +kernel
set_option maxRecDepth 100000 in
theorem a_oL5 : ((a_cL.drop 300).take 60).all (a_okb a_Z a_mL) = true := by decide +kernel
set_option maxRecDepth 100000 in
theorem a_oL6 : ((a_cL.drop 360).take 60).all (a_okb a_Z a_mL) = true := by decide +kernel
set_option maxRecDepth 100000 in
theorem a_oL7 : ((a_cL.drop 420).take 60).all (a_okb a_Z a_mL) = true := by decide +kernel
set_option maxRecDepth 100000 in
theorem a_oL8 : ((a_cL.drop 480).take 60).all (a_okb a_Z a_mL) = true := by decide +kernel
set_option maxRecDepth 100000 in
theorem a_oL9 : ((a_cL.drop 540).take 60).all (a_okb a_Z a_mL) = true := by decide +kernel
set_option maxRecDepth 100000 in
theorem a_oL10 : ((a_cL.drop 600).take 60).all (a_okb a_Z a_mL) = true := by decide +kernel
set_option maxRecDepth 100000 in
theorem a_oL11 : ((a_cL.drop 660).take 60).all (a_okb a_Z a_mL) = true := by decide +kernel
set_option maxRecDepth 100000 in
theorem a_oL12 : ((a_cL.drop 720).take 60).all (a_okb a_Z a_mL) = true := by decide +kernel
set_option maxRecDepth 100000 in
theorem a_oL13 : ((a_cL.drop 780).take 60).all (a_okb a_Z a_mL) = true := by decide +kernel
set_option maxRecDepth 100000 in
theorem a_oL14 : ((a_cL.drop 840).take 60).all (a_okb a_Z a_mL) = true := by decide +kernel
set_option maxRecDepth 100000 in
theorem a_oL15 : ((a_cL.drop 900).take 60).all (a_okb a_Z a_mL) = true := by decide +kernel
set_option maxRecDepth 100000 in
theorem a_oL16 : ((a_cL.drop 960).take 60).all (a_okb a_Z a_mL) = true := by decide +kernel
set_option maxRecDepth 100000 in
theorem a_oL17 : ((a_cL.drop 1020).take 60).all (a_okb a_Z a_mL) = true := by decide +kernel
set_option maxRecDepth 100000 in
theorem a_oL18 : ((a_cL.drop 1080).take 60).all (a_okb a_Z a_mL) = true := by decide +kernel
set_option maxRecDepth 100000 in
theorem a_oLe : (a_cL.drop 1140).all (a_okb a_Z a_mL) = true := by decide +kernel
theorem a_oL : a_cL.all (a_okb a_Z a_mL) = true := (a_stretch _ a_cL 0 60 a_oL0 (a_stretch _ a_cL 60 60 a_oL1 (a_stretch _ a_cL 120 60 a_oL2 (a_stretch _ a_cL 180 60 a_oL3 (a_stretch _ a_cL 240 60 a_oL4 (a_stretch _ a_cL 300 60 a_oL5 (a_stretch _ a_cL 360 60 a_oL6 (a_stretch _ a_cL 420 60 a_oL7 (a_stretch _ a_cL 480 60 a_oL8 (a_stretch _ a_cL 540 60 a_oL9 (a_stretch _ a_cL 600 60 a_oL10 (a_stretch _ a_cL 660 60 a_oL11 (a_stretch _ a_cL 720 60 a_oL12 (a_stretch _ a_cL 780 60 a_oL13 (a_stretch _ a_cL 840 60 a_oL14 (a_stretch _ a_cL 900 60 a_oL15 (a_stretch _ a_cL 960 60 a_oL16 (a_stretch _ a_cL 1020 60 a_oL17 (a_stretch _ a_cL 1080 60 a_oL18 a_oLe)))))))))))))))))))
