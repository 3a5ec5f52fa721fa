set_option maxRecDepth 100000 in
theorem zck_X11_fault : (zwalk cX11_fault cX11_fault.data.toList 0 zk_X11_fault && zk_X11_fault.all (zokB zpool_11 ztsl zstt false (some .int) cX11_fault)) = true := by decide +kernel
set_option maxRecDepth 100000 in
theorem zck_X11_tells : (zwalk cX11_tells cX11_tells.data.toList 0 zk_X11_tells && zk_X11_tells.all (zokB zpool_11 ztsl zstt false (some .long) cX11_tells)) = true := by decide +kernel
set_option maxRecDepth 100000 in
theorem zck_X11_ordain : (zwalk cX11_ordain cX11_ordain.data.toList 0 zk_X11_ordain && zk_X11_ordain.all (zokB zpool_11 ztsl zstt false (some .int) cX11_ordain)) = true := by decide +kernel
set_option maxRecDepth 100000 in
theorem zck_X11_choose : (zwalk cX11_choose cX11_choose.data.toList 0 zk_X11_choose && zk_X11_choose.all (zokB zpool_11 ztsl zstt false (some .int) cX11_choose)) = true := by decide +kernel
set_option maxRecDepth 100000 in
theorem zck_X11_binds : (zwalk cX11_binds cX11_binds.data.toList 0 zk_X11_binds && zk_X11_binds.all (zokB zpool_11 ztsl zstt false (some .int) cX11_binds)) = true := by decide +kernel
set_option maxRecDepth 100000 in
theorem zck_X11_mayTake : (zwalk cX11_mayTake cX11_mayTake.data.toList 0 zk_X11_mayTake && zk_X11_mayTake.all (zokB zpool_11 ztsl zstt false (some .int) cX11_mayTake)) = true := by decide +kernel
set_option maxRecDepth 100000 in
theorem zck_X11_findMay : (zwalk cX11_findMay cX11_findMay.data.toList 0 zk_X11_findMay && zk_X11_findMay.all (zokB zpool_11 ztsl zstt false (none) cX11_findMay)) = true := by decide +kernel
set_option maxRecDepth 100000 in
theorem zck_X11_spread : (zwalk cX11_spread cX11_spread.data.toList 0 zk_X11_spread && zk_X11_spread.all (zokB zpool_11 ztsl zstt false (some .int) cX11_spread)) = true := by decide +kernel
set_option maxRecDepth 100000 in
theorem zck_X11_next : (zwalk cX11_next cX11_next.data.toList 0 zk_X11_next && zk_X11_next.all (zokB zpool_11 ztsl zstt false (some .int) cX11_next)) = true := by decide +kernel
set_option maxRecDepth 100000 in
theorem zck_X11_along : (zwalk cX11_along cX11_along.data.toList 0 zk_X11_along && zk_X11_along.all (zokB zpool_11 ztsl zstt false (some .int) cX11_along)) = true := by decide +kernel
set_option maxRecDepth 100000 in
theorem zck_X11_findLeft : (zwalk cX11_findLeft cX11_findLeft.data.toList 0 zk_X11_findLeft && zk_X11_findLeft.all (zokB zpool_11 ztsl zstt false (none) cX11_findLeft)) = true := by decide +kernel
set_option maxRecDepth 100000 in
theorem zck_X11_isWay : (zwalk cX11_isWay cX11_isWay.data.toList 0 zk_X11_isWay && zk_X11_isWay.all (zokB zpool_11 ztsl zstt false (some .boolean) cX11_isWay)) = true := by decide +kernel
set_option maxRecDepth 100000 in
theorem zck_X11_findWay : (zwalk cX11_findWay cX11_findWay.data.toList 0 zk_X11_findWay && zk_X11_findWay.all (zokB zpool_11 ztsl zstt false (some .int) cX11_findWay)) = true := by decide +kernel
set_option maxRecDepth 100000 in
theorem zck_X11_way : (zwalk cX11_way cX11_way.data.toList 0 zk_X11_way && zk_X11_way.all (zokB zpool_11 ztsl zstt false (some .int) cX11_way)) = true := by decide +kernel
set_option maxRecDepth 100000 in
theorem zck_X11_takes : (zwalk cX11_takes cX11_takes.data.toList 0 zk_X11_takes && zk_X11_takes.all (zokB zpool_11 ztsl zstt false (some .int) cX11_takes)) = true := by decide +kernel
