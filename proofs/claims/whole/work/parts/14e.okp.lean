set_option maxRecDepth 1000000 in
theorem okp87 : okP md87 p87_0 = true := by decide +kernel
set_option maxRecDepth 1000000 in
theorem okp88 : okP md88 p88_0 = true := by decide +kernel
set_option maxRecDepth 1000000 in
theorem okp89 : okP md89 p89_0 = true := by decide +kernel
set_option maxRecDepth 1000000 in
theorem okp90 : okP md90 p90_0 = true := by decide +kernel
set_option maxRecDepth 1000000 in
theorem okp91 : okP md91 p91_0 = true := by decide +kernel
set_option maxRecDepth 1000000 in
theorem okp92 : okP md92 p92_0 = true := by decide +kernel
set_option maxRecDepth 1000000 in
theorem okp93 : okP md93 p93_0 = true := by decide +kernel
set_option maxRecDepth 1000000 in
theorem okp94 : okP md94 p94_0 = true := by decide +kernel
set_option maxRecDepth 1000000 in
theorem okp95 : okP md95 p95_0 = true := by decide +kernel
set_option maxRecDepth 1000000 in
theorem okp96 : okP md96 p96_0 = true := by decide +kernel
set_option maxRecDepth 1000000 in
theorem okp97 : okP md97 p97_0 = true := by decide +kernel
set_option maxRecDepth 1000000 in
theorem okp98 : okP md98 p98_0 = true := by decide +kernel
set_option maxRecDepth 1000000 in
theorem okp99 : okP md99 p99_0 = true := by decide +kernel
set_option maxRecDepth 1000000 in
theorem okp100 : okP md100 p100_0 = true := by decide +kernel
set_option maxRecDepth 1000000 in
theorem okp101 : okP md101 p101_0 = true := by decide +kernel
set_option maxRecDepth 1000000 in
theorem okp102 : okP md102 p102_0 = true := by decide +kernel
set_option maxRecDepth 1000000 in
theorem okp103 : okP md103 p103_0 = true := by decide +kernel
set_option maxRecDepth 1000000 in
theorem okp104 : okP md104 p104_0 = true := by decide +kernel
set_option maxRecDepth 1000000 in
theorem okp105 : okP md105 p105_0 = true := by decide +kernel
set_option maxRecDepth 1000000 in
theorem okp106 : okP md106 p106_0 = true := by decide +kernel
set_option maxRecDepth 1000000 in
theorem okp107 : okP md107 p107_0 = true := by decide +kernel
set_option maxRecDepth 1000000 in
theorem okp108 : okP md108 p108_0 = true := by decide +kernel
set_option maxRecDepth 1000000 in
theorem okp109 : okP md109 p109_0 = true := by decide +kernel
