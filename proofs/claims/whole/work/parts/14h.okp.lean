set_option maxRecDepth 1000000 in
theorem okp169 : okP md169 p169_0 = true := by decide +kernel
set_option maxRecDepth 1000000 in
theorem okp170 : okP md170 p170_0 = true := by decide +kernel
set_option maxRecDepth 1000000 in
theorem okp171 : okP md171 p171_0 = true := by decide +kernel
set_option maxRecDepth 1000000 in
theorem okp172 : okP md172 p172_0 = true := by decide +kernel
set_option maxRecDepth 1000000 in
theorem okp173 : okP md173 p173_0 = true := by decide +kernel
set_option maxRecDepth 1000000 in
theorem okp174 : okP md174 p174_0 = true := by decide +kernel
set_option maxRecDepth 1000000 in
theorem okp175 : okP md175 p175_0 = true := by decide +kernel
set_option maxRecDepth 1000000 in
theorem okp176 : okP md176 p176_0 = true := by decide +kernel
set_option maxRecDepth 1000000 in
theorem okp177 : okP md177 p177_0 = true := by decide +kernel
set_option maxRecDepth 1000000 in
theorem okp178 : okP md178 p178_0 = true := by decide +kernel
