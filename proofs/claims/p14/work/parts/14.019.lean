set_option maxRecDepth 100000 in
theorem zck_X11_odds : (zwalk cX11_odds cX11_odds.data.toList 0 zk_X11_odds && zk_X11_odds.all (zokB zpool_11 ztsl zstt false (some .int) cX11_odds)) = true := by decide +kernel
set_option maxRecDepth 100000 in
theorem zck_X11_line : (zwalk cX11_line cX11_line.data.toList 0 zk_X11_line && zk_X11_line.all (zokB zpool_11 ztsl zstt false (some .int) cX11_line)) = true := by decide +kernel
set_option maxRecDepth 100000 in
theorem zck_X11_clear : (zwalk cX11_clear cX11_clear.data.toList 0 zk_X11_clear && zk_X11_clear.all (zokB zpool_11 ztsl zstt false (some .int) cX11_clear)) = true := by decide +kernel
set_option maxRecDepth 100000 in
theorem zck_X11_sumOf : (zwalk cX11_sumOf cX11_sumOf.data.toList 0 zk_X11_sumOf && zk_X11_sumOf.all (zokB zpool_11 ztsl zstt false (some .int) cX11_sumOf)) = true := by decide +kernel
set_option maxRecDepth 100000 in
theorem zck_X11_doubt : (zwalk cX11_doubt cX11_doubt.data.toList 0 zk_X11_doubt && zk_X11_doubt.all (zokB zpool_11 ztsl zstt false (some .int) cX11_doubt)) = true := by decide +kernel
set_option maxRecDepth 100000 in
theorem zck_X11_image : (zwalk cX11_image cX11_image.data.toList 0 zk_X11_image && zk_X11_image.all (zokB zpool_11 ztsl zstt false (some .int) cX11_image)) = true := by decide +kernel
set_option maxRecDepth 100000 in
theorem zck_X11_from : (zwalk cX11_from cX11_from.data.toList 0 zk_X11_from && zk_X11_from.all (zokB zpool_11 ztsl zstt false (some .int) cX11_from)) = true := by decide +kernel
set_option maxRecDepth 100000 in
theorem zck_X11_countOf : (zwalk cX11_countOf cX11_countOf.data.toList 0 zk_X11_countOf && zk_X11_countOf.all (zokB zpool_11 ztsl zstt false (some .int) cX11_countOf)) = true := by decide +kernel
set_option maxRecDepth 100000 in
theorem zck_X11_count : (zwalk cX11_count cX11_count.data.toList 0 zk_X11_count && zk_X11_count.all (zokB zpool_11 ztsl zstt false (some .int) cX11_count)) = true := by decide +kernel
set_option maxRecDepth 100000 in
theorem zck_X11_mixed : (zwalk cX11_mixed cX11_mixed.data.toList 0 zk_X11_mixed && zk_X11_mixed.all (zokB zpool_11 ztsl zstt false (some .long) cX11_mixed)) = true := by decide +kernel
set_option maxRecDepth 100000 in
theorem zck_X11_digest : (zwalk cX11_digest cX11_digest.data.toList 0 zk_X11_digest && zk_X11_digest.all (zokB zpool_11 ztsl zstt false (some .long) cX11_digest)) = true := by decide +kernel
set_option maxRecDepth 100000 in
theorem zck_J6_bitCount_0f7a4 : (zwalk cJ6_bitCount_0f7a4 cJ6_bitCount_0f7a4.data.toList 0 zk_J6_bitCount_0f7a4 && zk_J6_bitCount_0f7a4.all (zokB zpool_12 ztsl zstt false (some .int) cJ6_bitCount_0f7a4)) = true := by decide +kernel
set_option maxRecDepth 100000 in
theorem zck_J6_numberOfTrailingZeros_0f7a4 : (zwalk cJ6_numberOfTrailingZeros_0f7a4 cJ6_numberOfTrailingZeros_0f7a4.data.toList 0 zk_J6_numberOfTrailingZeros_0f7a4 && zk_J6_numberOfTrailingZeros_0f7a4.all (zokB zpool_12 ztsl zstt false (some .int) cJ6_numberOfTrailingZeros_0f7a4)) = true := by decide +kernel
set_option maxRecDepth 100000 in
theorem zck_J7_fill_d0a16 : (zwalk cJ7_fill_d0a16 cJ7_fill_d0a16.data.toList 0 zk_J7_fill_d0a16 && zk_J7_fill_d0a16.all (zokB zpool_13 ztsl zstt false (none) cJ7_fill_d0a16)) = true := by decide +kernel
set_option maxRecDepth 100000 in
theorem zck_J0_charAt_5068e : (zwalk cJ0_charAt_5068e cJ0_charAt_5068e.data.toList 0 zk_J0_charAt_5068e && zk_J0_charAt_5068e.all (zokB zpool_14 ztsl zstt false (some .char) cJ0_charAt_5068e)) = true := by decide +kernel
