set_option maxRecDepth 100000 in
theorem zck_X11_settlesCase : (zwalk cX11_settlesCase cX11_settlesCase.data.toList 0 zk_X11_settlesCase && zk_X11_settlesCase.all (zokB zpool_11 ztsl zstt false (some .boolean) cX11_settlesCase)) = true := by decide +kernel
set_option maxRecDepth 100000 in
theorem zck_X11_settlesValue : (zwalk cX11_settlesValue cX11_settlesValue.data.toList 0 zk_X11_settlesValue && zk_X11_settlesValue.all (zokB zpool_11 ztsl zstt false (some .boolean) cX11_settlesValue)) = true := by decide +kernel
set_option maxRecDepth 100000 in
theorem zck_X11_signOf : (zwalk cX11_signOf cX11_signOf.data.toList 0 zk_X11_signOf && zk_X11_signOf.all (zokB zpool_11 ztsl zstt false (some .int) cX11_signOf)) = true := by decide +kernel
set_option maxRecDepth 100000 in
theorem zck_X11_goesOn : (zwalk cX11_goesOn cX11_goesOn.data.toList 0 zk_X11_goesOn && zk_X11_goesOn.all (zokB zpool_11 ztsl zstt false (some .boolean) cX11_goesOn)) = true := by decide +kernel
set_option maxRecDepth 100000 in
theorem zck_X11_wordAt : (zwalk cX11_wordAt cX11_wordAt.data.toList 0 zk_X11_wordAt && zk_X11_wordAt.all (zokB zpool_11 ztsl zstt false (some .long) cX11_wordAt)) = true := by decide +kernel
set_option maxRecDepth 100000 in
theorem zck_X11_wordOf : (zwalk cX11_wordOf cX11_wordOf.data.toList 0 zk_X11_wordOf && zk_X11_wordOf.all (zokB zpool_11 ztsl zstt false (some .int) cX11_wordOf)) = true := by decide +kernel
set_option maxRecDepth 100000 in
theorem zck_X11_reads : (zwalk cX11_reads cX11_reads.data.toList 0 zk_X11_reads && zk_X11_reads.all (zokB zpool_11 ztsl zstt false (some .int) cX11_reads)) = true := by decide +kernel
set_option maxRecDepth 100000 in
theorem zck_X11_closes : (zwalk cX11_closes cX11_closes.data.toList 0 zk_X11_closes && zk_X11_closes.all (zokB zpool_11 ztsl zstt false (some .int) cX11_closes)) = true := by decide +kernel
set_option maxRecDepth 100000 in
theorem zck_X11_bestOf : (zwalk cX11_bestOf cX11_bestOf.data.toList 0 zk_X11_bestOf && zk_X11_bestOf.all (zokB zpool_11 ztsl zstt false (some .long) cX11_bestOf)) = true := by decide +kernel
set_option maxRecDepth 100000 in
theorem zck_X11_twoOf : (zwalk cX11_twoOf cX11_twoOf.data.toList 0 zk_X11_twoOf && zk_X11_twoOf.all (zokB zpool_11 ztsl zstt false (some .long) cX11_twoOf)) = true := by decide +kernel
set_option maxRecDepth 100000 in
theorem zck_X11_goes : (zwalk cX11_goes cX11_goes.data.toList 0 zk_X11_goes && zk_X11_goes.all (zokB zpool_11 ztsl zstt false (some .long) cX11_goes)) = true := by decide +kernel
set_option maxRecDepth 100000 in
theorem zck_X11_latestOf : (zwalk cX11_latestOf cX11_latestOf.data.toList 0 zk_X11_latestOf && zk_X11_latestOf.all (zokB zpool_11 ztsl zstt false (some .int) cX11_latestOf)) = true := by decide +kernel
set_option maxRecDepth 100000 in
theorem zck_X11_bindsOf : (zwalk cX11_bindsOf cX11_bindsOf.data.toList 0 zk_X11_bindsOf && zk_X11_bindsOf.all (zokB zpool_11 ztsl zstt false (some .int) cX11_bindsOf)) = true := by decide +kernel
set_option maxRecDepth 100000 in
theorem zck_X11_courseNames : (zwalk cX11_courseNames cX11_courseNames.data.toList 0 zk_X11_courseNames && zk_X11_courseNames.all (zokB zpool_11 ztsl zstt false (none) cX11_courseNames)) = true := by decide +kernel
set_option maxRecDepth 100000 in
theorem zck_X11_aloneNames : (zwalk cX11_aloneNames cX11_aloneNames.data.toList 0 zk_X11_aloneNames && zk_X11_aloneNames.all (zokB zpool_11 ztsl zstt false (none) cX11_aloneNames)) = true := by decide +kernel
