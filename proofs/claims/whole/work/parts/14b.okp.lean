set_option maxRecDepth 1000000 in
theorem okp2 : okP md2 p2_0 = true := by decide +kernel
set_option maxRecDepth 1000000 in
theorem okp3 : okP md3 p3_0 = true := by decide +kernel
set_option maxRecDepth 1000000 in
theorem okp4 : okP md4 p4_0 = true := by decide +kernel
set_option maxRecDepth 1000000 in
theorem okp5 : okP md5 p5_0 = true := by decide +kernel
set_option maxRecDepth 1000000 in
theorem okp6 : okP md6 p6_0 = true := by decide +kernel
set_option maxRecDepth 1000000 in
theorem okp7 : okP md7 p7_0 = true := by decide +kernel
set_option maxRecDepth 1000000 in
theorem okp8 : okP md8 p8_0 = true := by decide +kernel
set_option maxRecDepth 1000000 in
theorem okp9 : okP md9 p9_0 = true := by decide +kernel
set_option maxRecDepth 1000000 in
theorem okp10 : okP md10 p10_0 = true := by decide +kernel
set_option maxRecDepth 1000000 in
theorem okp11 : okP md11 p11_0 = true := by decide +kernel
set_option maxRecDepth 1000000 in
theorem okp12 : okP md12 p12_0 = true := by decide +kernel
set_option maxRecDepth 1000000 in
theorem okp13 : okP md13 p13_0 = true := by decide +kernel
set_option maxRecDepth 1000000 in
theorem okp14 : okP md14 p14_0 = true := by decide +kernel
set_option maxRecDepth 1000000 in
theorem okp15 : okP md15 p15_0 = true := by decide +kernel
set_option maxRecDepth 1000000 in
theorem okp16 : okP md16 p16_0 = true := by decide +kernel
set_option maxRecDepth 1000000 in
theorem okp17 : okP md17 p17_0 = true := by decide +kernel
set_option maxRecDepth 1000000 in
theorem okp18 : okP md18 p18_0 = true := by decide +kernel
set_option maxRecDepth 1000000 in
theorem okp19 : okP md19 p19_0 = true := by decide +kernel
set_option maxRecDepth 1000000 in
theorem okp20 : okP md20 p20_0 = true := by decide +kernel
set_option maxRecDepth 1000000 in
theorem okp21 : okP md21 p21_0 = true := by decide +kernel
set_option maxRecDepth 1000000 in
theorem okp22 : okP md22 p22_0 = true := by decide +kernel
set_option maxRecDepth 1000000 in
theorem okp23 : okP md23 p23_0 = true := by decide +kernel
set_option maxRecDepth 1000000 in
theorem okp24 : okP md24 p24_0 = true := by decide +kernel
set_option maxRecDepth 1000000 in
theorem okp25 : okP md25 p25_0 = true := by decide +kernel
set_option maxRecDepth 1000000 in
theorem okp26 : okP md26 p26_0 = true := by decide +kernel
set_option maxRecDepth 1000000 in
theorem okp27 : okP md27 p27_0 = true := by decide +kernel
set_option maxRecDepth 1000000 in
theorem okp28 : okP md28 p28_0 = true := by decide +kernel
set_option maxRecDepth 1000000 in
theorem okp29 : okP md29 p29_0 = true := by decide +kernel
set_option maxRecDepth 1000000 in
theorem okp30 : okP md30 p30_0 = true := by decide +kernel
set_option maxRecDepth 1000000 in
theorem okp31 : okP md31 p31_0 = true := by decide +kernel
