set_option maxRecDepth 1000000 in
theorem okp110 : okP md110 p110_0 = true := by decide +kernel
set_option maxRecDepth 1000000 in
theorem okp111 : okP md111 p111_0 = true := by decide +kernel
set_option maxRecDepth 1000000 in
theorem okp112 : okP md112 p112_0 = true := by decide +kernel
set_option maxRecDepth 1000000 in
theorem okp113 : okP md113 p113_0 = true := by decide +kernel
set_option maxRecDepth 1000000 in
theorem okp114 : okP md114 p114_0 = true := by decide +kernel
set_option maxRecDepth 1000000 in
theorem okp115 : okP md115 p115_0 = true := by decide +kernel
set_option maxRecDepth 1000000 in
theorem okp116 : okP md116 p116_0 = true := by decide +kernel
set_option maxRecDepth 1000000 in
theorem okp117 : okP md117 p117_0 = true := by decide +kernel
set_option maxRecDepth 1000000 in
theorem okp118 : okP md118 p118_0 = true := by decide +kernel
set_option maxRecDepth 1000000 in
theorem okp119 : okP md119 p119_0 = true := by decide +kernel
set_option maxRecDepth 1000000 in
theorem okp120 : okP md120 p120_0 = true := by decide +kernel
set_option maxRecDepth 1000000 in
theorem okp121 : okP md121 p121_0 = true := by decide +kernel
set_option maxRecDepth 1000000 in
theorem okp122 : okP md122 p122_0 = true := by decide +kernel
set_option maxRecDepth 1000000 in
theorem okp123 : okP md123 p123_0 = true := by decide +kernel
set_option maxRecDepth 1000000 in
theorem okp124 : okP md124 p124_0 = true := by decide +kernel
set_option maxRecDepth 1000000 in
theorem okp125 : okP md125 p125_0 = true := by decide +kernel
set_option maxRecDepth 1000000 in
theorem okp126 : okP md126 p126_0 = true := by decide +kernel
set_option maxRecDepth 1000000 in
theorem okp127 : okP md127 p127_0 = true := by decide +kernel
set_option maxRecDepth 1000000 in
theorem okp128 : okP md128 p128_0 = true := by decide +kernel
set_option maxRecDepth 1000000 in
theorem okp129 : okP md129 p129_0 = true := by decide +kernel
set_option maxRecDepth 1000000 in
theorem okp130 : okP md130 p130_0 = true := by decide +kernel
set_option maxRecDepth 1000000 in
theorem okp131 : okP md131 p131_0 = true := by decide +kernel
set_option maxRecDepth 1000000 in
theorem okp132 : okP md132 p132_0 = true := by decide +kernel
set_option maxRecDepth 1000000 in
theorem okp133 : okP md133 p133_0 = true := by decide +kernel
set_option maxRecDepth 1000000 in
theorem okp134 : okP md134 p134_0 = true := by decide +kernel
set_option maxRecDepth 1000000 in
theorem okp135 : okP md135 p135_0 = true := by decide +kernel
set_option maxRecDepth 1000000 in
theorem okp136 : okP md136 p136_0 = true := by decide +kernel
set_option maxRecDepth 1000000 in
theorem okp137 : okP md137 p137_0 = true := by decide +kernel
