set_option maxRecDepth 1000000 in
theorem okp32 : okP md32 p32_0 = true := by decide +kernel
set_option maxRecDepth 1000000 in
theorem okp33 : okP md33 p33_0 = true := by decide +kernel
set_option maxRecDepth 1000000 in
theorem okp34 : okP md34 p34_0 = true := by decide +kernel
set_option maxRecDepth 1000000 in
theorem okp35 : okP md35 p35_0 = true := by decide +kernel
set_option maxRecDepth 1000000 in
theorem okp36 : okP md36 p36_0 = true := by decide +kernel
set_option maxRecDepth 1000000 in
theorem okp37 : okP md37 p37_0 = true := by decide +kernel
set_option maxRecDepth 1000000 in
theorem okp38 : okP md38 p38_0 = true := by decide +kernel
set_option maxRecDepth 1000000 in
theorem okp39 : okP md39 p39_0 = true := by decide +kernel
set_option maxRecDepth 1000000 in
theorem okp40 : okP md40 p40_0 = true := by decide +kernel
set_option maxRecDepth 1000000 in
theorem okp41 : okP md41 p41_0 = true := by decide +kernel
set_option maxRecDepth 1000000 in
theorem okp42 : okP md42 p42_0 = true := by decide +kernel
set_option maxRecDepth 1000000 in
theorem okp43 : okP md43 p43_0 = true := by decide +kernel
set_option maxRecDepth 1000000 in
theorem okp44 : okP md44 p44_0 = true := by decide +kernel
set_option maxRecDepth 1000000 in
theorem okp45 : okP md45 p45_0 = true := by decide +kernel
set_option maxRecDepth 1000000 in
theorem okp46 : okP md46 p46_0 = true := by decide +kernel
set_option maxRecDepth 1000000 in
theorem okp47 : okP md47 p47_0 = true := by decide +kernel
set_option maxRecDepth 1000000 in
theorem okp48 : okP md48 p48_0 = true := by decide +kernel
set_option maxRecDepth 1000000 in
theorem okp49 : okP md49 p49_0 = true := by decide +kernel
set_option maxRecDepth 1000000 in
theorem okp50 : okP md50 p50_0 = true := by decide +kernel
set_option maxRecDepth 1000000 in
theorem okp51 : okP md51 p51_0 = true := by decide +kernel
set_option maxRecDepth 1000000 in
theorem okp52 : okP md52 p52_0 = true := by decide +kernel
set_option maxRecDepth 1000000 in
theorem okp53 : okP md53 p53_0 = true := by decide +kernel
set_option maxRecDepth 1000000 in
theorem okp54 : okP md54 p54_0 = true := by decide +kernel
set_option maxRecDepth 1000000 in
theorem okp55 : okP md55 p55_0 = true := by decide +kernel
set_option maxRecDepth 1000000 in
theorem okp56 : okP md56 p56_0 = true := by decide +kernel
set_option maxRecDepth 1000000 in
theorem okp57 : okP md57 p57_0 = true := by decide +kernel
set_option maxRecDepth 1000000 in
theorem okp58 : okP md58 p58_0 = true := by decide +kernel
set_option maxRecDepth 1000000 in
theorem okp59 : okP md59 p59_0 = true := by decide +kernel
set_option maxRecDepth 1000000 in
theorem okp60 : okP md60 p60_0 = true := by decide +kernel
set_option maxRecDepth 1000000 in
theorem okp61 : okP md61 p61_0 = true := by decide +kernel
set_option maxRecDepth 1000000 in
theorem okp62 : okP md62 p62_0 = true := by decide +kernel
set_option maxRecDepth 1000000 in
theorem okp63 : okP md63 p63_0 = true := by decide +kernel
