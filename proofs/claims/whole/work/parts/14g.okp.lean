set_option maxRecDepth 1000000 in
theorem okp138 : okP md138 p138_0 = true := by decide +kernel
set_option maxRecDepth 1000000 in
theorem okp139 : okP md139 p139_0 = true := by decide +kernel
set_option maxRecDepth 1000000 in
theorem okp140 : okP md140 p140_0 = true := by decide +kernel
set_option maxRecDepth 1000000 in
theorem okp141 : okP md141 p141_0 = true := by decide +kernel
set_option maxRecDepth 1000000 in
theorem okp142 : okP md142 p142_0 = true := by decide +kernel
set_option maxRecDepth 1000000 in
theorem okp143 : okP md143 p143_0 = true := by decide +kernel
set_option maxRecDepth 1000000 in
theorem okp144 : okP md144 p144_0 = true := by decide +kernel
set_option maxRecDepth 1000000 in
theorem okp145 : okP md145 p145_0 = true := by decide +kernel
set_option maxRecDepth 1000000 in
theorem okp146 : okP md146 p146_0 = true := by decide +kernel
set_option maxRecDepth 1000000 in
theorem okp147 : okP md147 p147_0 = true := by decide +kernel
set_option maxRecDepth 1000000 in
theorem okp148 : okP md148 p148_0 = true := by decide +kernel
set_option maxRecDepth 1000000 in
theorem okp149 : okP md149 p149_0 = true := by decide +kernel
set_option maxRecDepth 1000000 in
theorem okp150 : okP md150 p150_0 = true := by decide +kernel
set_option maxRecDepth 1000000 in
theorem okp151 : okP md151 p151_0 = true := by decide +kernel
set_option maxRecDepth 1000000 in
theorem okp152 : okP md152 p152_0 = true := by decide +kernel
set_option maxRecDepth 1000000 in
theorem okp153 : okP md153 p153_0 = true := by decide +kernel
set_option maxRecDepth 1000000 in
theorem okp154 : okP md154 p154_0 = true := by decide +kernel
set_option maxRecDepth 1000000 in
theorem okp155 : okP md155 p155_0 = true := by decide +kernel
set_option maxRecDepth 1000000 in
theorem okp156 : okP md156 p156_0 = true := by decide +kernel
set_option maxRecDepth 1000000 in
theorem okp157 : okP md157 p157_0 = true := by decide +kernel
set_option maxRecDepth 1000000 in
theorem okp158 : okP md158 p158_0 = true := by decide +kernel
set_option maxRecDepth 1000000 in
theorem okp159 : okP md159 p159_0 = true := by decide +kernel
set_option maxRecDepth 1000000 in
theorem okp160 : okP md160 p160_0 = true := by decide +kernel
set_option maxRecDepth 1000000 in
theorem okp161 : okP md161 p161_0 = true := by decide +kernel
set_option maxRecDepth 1000000 in
theorem okp162 : okP md162 p162_0 = true := by decide +kernel
set_option maxRecDepth 1000000 in
theorem okp163 : okP md163 p163_0 = true := by decide +kernel
set_option maxRecDepth 1000000 in
theorem okp164 : okP md164 p164_0 = true := by decide +kernel
set_option maxRecDepth 1000000 in
theorem okp165 : okP md165 p165_0 = true := by decide +kernel
set_option maxRecDepth 1000000 in
theorem okp166 : okP md166 p166_0 = true := by decide +kernel
set_option maxRecDepth 1000000 in
theorem okp167 : okP md167 p167_0 = true := by decide +kernel
set_option maxRecDepth 1000000 in
theorem okp168 : okP md168 p168_0 = true := by decide +kernel
