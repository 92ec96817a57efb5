set_option maxRecDepth 1000000 in
theorem okp64 : okP md64 p64_0 = true := by decide +kernel
set_option maxRecDepth 1000000 in
theorem okp65 : okP md65 p65_0 = true := by decide +kernel
set_option maxRecDepth 1000000 in
theorem okp66 : okP md66 p66_0 = true := by decide +kernel
set_option maxRecDepth 1000000 in
theorem okp67 : okP md67 p67_0 = true := by decide +kernel
set_option maxRecDepth 1000000 in
theorem okp68 : okP md68 p68_0 = true := by decide +kernel
set_option maxRecDepth 1000000 in
theorem okp69 : okP md69 p69_0 = true := by decide +kernel
set_option maxRecDepth 1000000 in
theorem okp70 : okP md70 p70_0 = true := by decide +kernel
set_option maxRecDepth 1000000 in
theorem okp71 : okP md71 p71_0 = true := by decide +kernel
set_option maxRecDepth 1000000 in
theorem okp72 : okP md72 p72_0 = true := by decide +kernel
set_option maxRecDepth 1000000 in
theorem okp73 : okP md73 p73_0 = true := by decide +kernel
set_option maxRecDepth 1000000 in
theorem okp74 : okP md74 p74_0 = true := by decide +kernel
set_option maxRecDepth 1000000 in
theorem okp75 : okP md75 p75_0 = true := by decide +kernel
set_option maxRecDepth 1000000 in
theorem okp76 : okP md76 p76_0 = true := by decide +kernel
set_option maxRecDepth 1000000 in
theorem okp77 : okP md77 p77_0 = true := by decide +kernel
set_option maxRecDepth 1000000 in
theorem okp78 : okP md78 p78_0 = true := by decide +kernel
set_option maxRecDepth 1000000 in
theorem okp79 : okP md79 p79_0 = true := by decide +kernel
set_option maxRecDepth 1000000 in
theorem okp80 : okP md80 p80_0 = true := by decide +kernel
set_option maxRecDepth 1000000 in
theorem okp81 : okP md81 p81_0 = true := by decide +kernel
set_option maxRecDepth 1000000 in
theorem okp82 : okP md82 p82_0 = true := by decide +kernel
set_option maxRecDepth 1000000 in
theorem okp83 : okP md83 p83_0 = true := by decide +kernel
set_option maxRecDepth 1000000 in
theorem okp84 : okP md84 p84_0 = true := by decide +kernel
set_option maxRecDepth 1000000 in
theorem okp85 : okP md85 p85_0 = true := by decide +kernel
set_option maxRecDepth 1000000 in
theorem okp86 : okP md86 p86_0 = true := by decide +kernel
