set_option maxRecDepth 100000 in
theorem zck_J0_indexOf_0f7a4 : (zwalk cJ0_indexOf_0f7a4 cJ0_indexOf_0f7a4.data.toList 0 zk_J0_indexOf_0f7a4 && zk_J0_indexOf_0f7a4.all (zokB zpool_14 ztsl zstt false (some .int) cJ0_indexOf_0f7a4)) = true := by decide +kernel
set_option maxRecDepth 100000 in
theorem zck_J0_indexOf_7cf53 : (zwalk cJ0_indexOf_7cf53 cJ0_indexOf_7cf53.data.toList 0 zk_J0_indexOf_7cf53 && zk_J0_indexOf_7cf53.all (zokB zpool_14 ztsl zstt false (some .int) cJ0_indexOf_7cf53)) = true := by decide +kernel
set_option maxRecDepth 100000 in
theorem zck_J0_length_8abf5 : (zwalk cJ0_length_8abf5 cJ0_length_8abf5.data.toList 0 zk_J0_length_8abf5 && zk_J0_length_8abf5.all (zokB zpool_14 ztsl zstt false (some .int) cJ0_length_8abf5)) = true := by decide +kernel
set_option maxRecDepth 100000 in
theorem zck_J0_coder_7d493 : (zwalk cJ0_coder_7d493 cJ0_coder_7d493.data.toList 0 zk_J0_coder_7d493 && zk_J0_coder_7d493.all (zokB zpool_14 ztsl zstt false (some .byte) cJ0_coder_7d493)) = true := by decide +kernel
set_option maxRecDepth 100000 in
theorem zck_J0_isLatin1_aae02 : (zwalk cJ0_isLatin1_aae02 cJ0_isLatin1_aae02.data.toList 0 zk_J0_isLatin1_aae02 && zk_J0_isLatin1_aae02.all (zokB zpool_14 ztsl zstt false (some .boolean) cJ0_isLatin1_aae02)) = true := by decide +kernel
set_option maxRecDepth 100000 in
theorem zck_J0_checkIndex_df160 : (zwalk cJ0_checkIndex_df160 cJ0_checkIndex_df160.data.toList 0 zk_J0_checkIndex_df160 && zk_J0_checkIndex_df160.all (zokB zpool_14 ztsl zstt false (none) cJ0_checkIndex_df160)) = true := by decide +kernel
set_option maxRecDepth 100000 in
theorem zck_J1_charAt_3b067 : (zwalk cJ1_charAt_3b067 cJ1_charAt_3b067.data.toList 0 zk_J1_charAt_3b067 && zk_J1_charAt_3b067.all (zokB zpool_15 ztsl zstt false (some .char) cJ1_charAt_3b067)) = true := by decide +kernel
set_option maxRecDepth 100000 in
theorem zck_J1_canEncode_9a6ad : (zwalk cJ1_canEncode_9a6ad cJ1_canEncode_9a6ad.data.toList 0 zk_J1_canEncode_9a6ad && zk_J1_canEncode_9a6ad.all (zokB zpool_15 ztsl zstt false (some .boolean) cJ1_canEncode_9a6ad)) = true := by decide +kernel
set_option maxRecDepth 100000 in
theorem zck_J1_indexOf_4cfef : (zwalk cJ1_indexOf_4cfef cJ1_indexOf_4cfef.data.toList 0 zk_J1_indexOf_4cfef && zk_J1_indexOf_4cfef.all (zokB zpool_15 ztsl zstt false (some .int) cJ1_indexOf_4cfef)) = true := by decide +kernel
set_option maxRecDepth 100000 in
theorem zck_J1_indexOfChar_4cfef : (zwalk cJ1_indexOfChar_4cfef cJ1_indexOfChar_4cfef.data.toList 0 zk_J1_indexOfChar_4cfef && zk_J1_indexOfChar_4cfef.all (zokB zpool_15 ztsl zstt false (some .int) cJ1_indexOfChar_4cfef)) = true := by decide +kernel
set_option maxRecDepth 100000 in
theorem zck_J3_checkIndex_8e157 : (zwalk cJ3_checkIndex_8e157 cJ3_checkIndex_8e157.data.toList 0 zk_J3_checkIndex_8e157 && zk_J3_checkIndex_8e157.all (zokB zpool_16 ztsl zstt false (some .int) cJ3_checkIndex_8e157)) = true := by decide +kernel
set_option maxRecDepth 100000 in
theorem zck_L_law : (zwalk cL_law cL_law.data.toList 0 zk_L_law && zk_L_law.all (zokB zpool_17 ztsl zstt false (some .boolean) cL_law)) = true := by decide +kernel
