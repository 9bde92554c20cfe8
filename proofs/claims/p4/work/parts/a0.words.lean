set_option maxRecDepth 20000 in
theorem lg_wsX90 : GoodIn lw_tbl wsX90 := goodIn_r _ [372, 374, 376, 378, 380, 382, 384, 386, 388, 390, 392, 394, 396, 398, 400, 402] (by decide +kernel) (by decide +kernel)
set_option maxRecDepth 20000 in
theorem lg_mwX9_status : GoodIn lw_tbl mwX9_status := (gj_cons ⟨List.mem_of_getElem? (i := 408) (by decide +kernel), good_of_word (by decide +kernel)⟩ (gj_app (goodIn_r _ [356] (by decide +kernel) (by decide +kernel)) lg_wsX90))
set_option maxRecDepth 20000 in
theorem lg_wsX100 : GoodIn lw_tbl wsX100 := goodIn_r _ [1171, 1173, 1175, 1177, 1179, 1181, 1183, 1185, 1187, 1189, 1191, 1193, 1195, 1197, 1199, 1201, 1203, 1205, 1207, 1209, 1211, 1213, 1215, 1217, 1219, 1221, 1223, 1225, 1227, 1229, 1231, 1233, 1235, 1237, 1239, 1241, 1243, 1245, 1247, 1249, 1251, 1253, 1255, 1257, 1259, 1261, 1263, 1265] (by decide +kernel) (by decide +kernel)
set_option maxRecDepth 20000 in
theorem lg_mwX10_statusm : GoodIn lw_tbl mwX10_statusm := (gj_cons ⟨List.mem_of_getElem? (i := 1271) (by decide +kernel), good_of_word (by decide +kernel)⟩ (gj_app (goodIn_r _ [1124] (by decide +kernel) (by decide +kernel)) lg_wsX100))
set_option maxRecDepth 20000 in
theorem lg_mwX9_putBytesq : GoodIn lw_tbl mwX9_putBytesq := (gj_cons ⟨List.mem_of_getElem? (i := 416) (by decide +kernel), good_of_word (by decide +kernel)⟩ (gj_app (goodIn_r _ [358, 357] (by decide +kernel) (by decide +kernel)) lg_wsX90))
set_option maxRecDepth 20000 in
theorem lg_mwX9_feedq : GoodIn lw_tbl mwX9_feedq := (gj_cons ⟨List.mem_of_getElem? (i := 412) (by decide +kernel), good_of_word (by decide +kernel)⟩ (gj_app (goodIn_r _ [358, 413, 415, 0, 106] (by decide +kernel) (by decide +kernel)) (gj_app lg_wsX90 lg_mwX9_putBytesq)))
set_option maxRecDepth 20000 in
theorem lg_mwX10_fourmq : GoodIn lw_tbl mwX10_fourmq := (gj_cons ⟨List.mem_of_getElem? (i := 1279) (by decide +kernel), good_of_word (by decide +kernel)⟩ (gj_app (goodIn_r _ [1127, 1129] (by decide +kernel) (by decide +kernel)) lg_wsX100))
set_option maxRecDepth 20000 in
theorem lg_mwX10_feedmq : GoodIn lw_tbl mwX10_feedmq := (gj_cons ⟨List.mem_of_getElem? (i := 1275) (by decide +kernel), good_of_word (by decide +kernel)⟩ (gj_app (goodIn_r _ [1129, 1276, 1278, 32, 115] (by decide +kernel) (by decide +kernel)) (gj_app lg_wsX100 lg_mwX10_fourmq)))
set_option maxRecDepth 20000 in
theorem lg_wsX00 : GoodIn lw_tbl wsX00 := goodIn_r _ [152, 154, 156] (by decide +kernel) (by decide +kernel)
set_option maxRecDepth 20000 in
theorem lg_mwX9_refuse : GoodIn lw_tbl mwX9_refuse := (gj_cons ⟨List.mem_of_getElem? (i := 424) (by decide +kernel), good_of_word (by decide +kernel)⟩ (gj_app (goodIn_r _ [356] (by decide +kernel) (by decide +kernel)) lg_wsX90))
set_option maxRecDepth 20000 in
theorem lg_wsX60 : GoodIn lw_tbl wsX60 := goodIn_r _ [186, 188, 190, 192, 194, 196, 198, 200, 202, 204, 206] (by decide +kernel) (by decide +kernel)
set_option maxRecDepth 20000 in
theorem lg_mwX6_fail : GoodIn lw_tbl mwX6_fail := (gj_cons ⟨List.mem_of_getElem? (i := 499) (by decide +kernel), good_of_word (by decide +kernel)⟩ (gj_app (goodIn_r _ [167, 169] (by decide +kernel) (by decide +kernel)) lg_wsX60))
set_option maxRecDepth 20000 in
theorem lg_mwX9_isSmallwq : GoodIn lw_tbl mwX9_isSmallwq := (gj_cons ⟨List.mem_of_getElem? (i := 438) (by decide +kernel), good_of_word (by decide +kernel)⟩ (fun w h => absurd h List.not_mem_nil))
set_option maxRecDepth 20000 in
theorem lg_mwX6_readSemicolonq : GoodIn lw_tbl mwX6_readSemicolonq := (gj_cons ⟨List.mem_of_getElem? (i := 523) (by decide +kernel), good_of_word (by decide +kernel)⟩ (gj_app (goodIn_r _ [185, 496, 498, 4, 108] (by decide +kernel) (by decide +kernel)) (gj_app lg_wsX60 lg_mwX6_fail)))
set_option maxRecDepth 20000 in
theorem lg_mwX6_endOfDocq : GoodIn lw_tbl mwX6_endOfDocq := (gj_cons ⟨List.mem_of_getElem? (i := 508) (by decide +kernel), good_of_word (by decide +kernel)⟩ (gj_app (goodIn_r _ [496, 498, 4, 108, 106, 437] (by decide +kernel) (by decide +kernel)) (gj_app lg_mwX6_fail lg_mwX9_isSmallwq)))
set_option maxRecDepth 20000 in
theorem lg_mwX6_isSignq : GoodIn lw_tbl mwX6_isSignq := (gj_cons ⟨List.mem_of_getElem? (i := 519) (by decide +kernel), good_of_word (by decide +kernel)⟩ (fun w h => absurd h List.not_mem_nil))
set_option maxRecDepth 20000 in
theorem lg_mwX6_endOfSetq : GoodIn lw_tbl mwX6_endOfSetq := (gj_cons ⟨List.mem_of_getElem? (i := 516) (by decide +kernel), good_of_word (by decide +kernel)⟩ (gj_app (goodIn_r _ [496, 498, 4, 108, 106, 437] (by decide +kernel) (by decide +kernel)) (gj_app lg_mwX6_fail lg_mwX9_isSmallwq)))
set_option maxRecDepth 20000 in
theorem lg_mwX6_endOfPatternq : GoodIn lw_tbl mwX6_endOfPatternq := (gj_cons ⟨List.mem_of_getElem? (i := 512) (by decide +kernel), good_of_word (by decide +kernel)⟩ (gj_app (goodIn_r _ [496, 498, 4, 108, 106, 437, 167, 517, 518, 513, 515, 8, 500, 244, 113, 245] (by decide +kernel) (by decide +kernel)) (gj_app lg_wsX60 (gj_app lg_mwX6_fail (gj_app lg_mwX9_isSmallwq (gj_app lg_mwX6_isSignq lg_mwX6_endOfSetq))))))
set_option maxRecDepth 20000 in
theorem lg_mwX6_readQuoteq : GoodIn lw_tbl mwX6_readQuoteq := (gj_cons ⟨List.mem_of_getElem? (i := 504) (by decide +kernel), good_of_word (by decide +kernel)⟩ (gj_app (goodIn_r _ [185, 505, 507, 6, 108, 167, 171, 177, 179, 181, 173, 175, 509, 511, 7, 496, 498, 4] (by decide +kernel) (by decide +kernel)) (gj_app lg_wsX60 (gj_app lg_mwX6_endOfDocq (gj_app lg_mwX6_endOfPatternq lg_mwX6_fail)))))
set_option maxRecDepth 20000 in
theorem lg_mwJ0_coder_7d493j : GoodIn lw_tbl mwJ0_coder_7d493j := (gj_cons ⟨List.mem_of_getElem? (i := 454) (by decide +kernel), good_of_word (by decide +kernel)⟩ (goodIn_r _ [455, 1736] (by decide +kernel) (by decide +kernel)))
set_option maxRecDepth 20000 in
theorem lg_mwJ0_length_8abf5j : GoodIn lw_tbl mwJ0_length_8abf5j := (gj_cons ⟨List.mem_of_getElem? (i := 450) (by decide +kernel), good_of_word (by decide +kernel)⟩ (gj_app (goodIn_r _ [1735, 451, 452, 453, 116] (by decide +kernel) (by decide +kernel)) lg_mwJ0_coder_7d493j))
set_option maxRecDepth 20000 in
theorem lg_mwJ0_isLatin1_aae02j : GoodIn lw_tbl mwJ0_isLatin1_aae02j := (gj_cons ⟨List.mem_of_getElem? (i := 464) (by decide +kernel), good_of_word (by decide +kernel)⟩ (goodIn_r _ [455, 1736] (by decide +kernel) (by decide +kernel)))
set_option maxRecDepth 20000 in
theorem lg_mwJ3_checkIndex_8e157jnull : GoodIn lw_tbl mwJ3_checkIndex_8e157jnull := (gj_cons ⟨List.mem_of_getElem? (i := 475) (by decide +kernel), good_of_word (by decide +kernel)⟩ (fun w h => absurd h List.not_mem_nil))
set_option maxRecDepth 20000 in
theorem lg_mwJ3_checkIndex_8e157jref : GoodIn lw_tbl mwJ3_checkIndex_8e157jref := (gj_cons ⟨List.mem_of_getElem? (i := 475) (by decide +kernel), good_of_word (by decide +kernel)⟩ (fun w h => absurd h List.not_mem_nil))
set_option maxRecDepth 20000 in
theorem lg_mwJ0_checkIndex_df160j : GoodIn lw_tbl mwJ0_checkIndex_df160j := (gj_cons ⟨List.mem_of_getElem? (i := 470) (by decide +kernel), good_of_word (by decide +kernel)⟩ (gj_app (goodIn_r _ [471, 473, 474, 118] (by decide +kernel) (by decide +kernel)) (gj_app lg_mwJ3_checkIndex_8e157jnull lg_mwJ3_checkIndex_8e157jref)))
set_option maxRecDepth 20000 in
theorem lg_mwJ1_charAt_3b067jq : GoodIn lw_tbl mwJ1_charAt_3b067jq := (gj_cons ⟨List.mem_of_getElem? (i := 467) (by decide +kernel), good_of_word (by decide +kernel)⟩ (gj_app (goodIn_r _ [468, 469, 116] (by decide +kernel) (by decide +kernel)) lg_mwJ0_checkIndex_df160j))
set_option maxRecDepth 20000 in
theorem lg_mwJ0_charAt_5068ejq : GoodIn lw_tbl mwJ0_charAt_5068ejq := (gj_cons ⟨List.mem_of_getElem? (i := 460) (by decide +kernel), good_of_word (by decide +kernel)⟩ (gj_app (goodIn_r _ [461, 462, 463, 116, 1735, 465, 466, 117] (by decide +kernel) (by decide +kernel)) (gj_app lg_mwJ0_isLatin1_aae02j lg_mwJ1_charAt_3b067jq)))
set_option maxRecDepth 20000 in
theorem lg_mwX6_isWordq : GoodIn lw_tbl mwX6_isWordq := (gj_cons ⟨List.mem_of_getElem? (i := 446) (by decide +kernel), good_of_word (by decide +kernel)⟩ (gj_app (goodIn_r _ [447, 448, 449, 116, 457, 458, 459] (by decide +kernel) (by decide +kernel)) (gj_app lg_mwJ0_length_8abf5j lg_mwJ0_charAt_5068ejq)))
set_option maxRecDepth 20000 in
theorem lg_mwX6_readWordq : GoodIn lw_tbl mwX6_readWordq := (gj_cons ⟨List.mem_of_getElem? (i := 442) (by decide +kernel), good_of_word (by decide +kernel)⟩ (gj_app (goodIn_r _ [444, 445, 108, 185, 496, 498, 4, 183, 173, 184, 175, 106, 437] (by decide +kernel) (by decide +kernel)) (gj_app lg_wsX60 (gj_app lg_mwX6_isWordq (gj_app lg_mwX6_fail lg_mwX9_isSmallwq)))))
set_option maxRecDepth 20000 in
theorem lg_mwX6_readq : GoodIn lw_tbl mwX6_readq := (gj_cons ⟨List.mem_of_getElem? (i := 432) (by decide +kernel), good_of_word (by decide +kernel)⟩ (gj_app (goodIn_r _ [167, 169, 171, 173, 175, 183, 184, 185, 433, 434, 113, 435, 496, 498, 4, 108, 106, 437, 520, 522, 9, 501, 503, 5, 500, 244, 245, 439, 441, 3] (by decide +kernel) (by decide +kernel)) (gj_app lg_wsX60 (gj_app lg_mwX6_fail (gj_app lg_mwX9_isSmallwq (gj_app lg_mwX6_readSemicolonq (gj_app lg_mwX6_readQuoteq lg_mwX6_readWordq)))))))
set_option maxRecDepth 20000 in
theorem lg_mwX9_readTapeq : GoodIn lw_tbl mwX9_readTapeq := (gj_cons ⟨List.mem_of_getElem? (i := 428) (by decide +kernel), good_of_word (by decide +kernel)⟩ (gj_app (goodIn_r _ [366, 357, 429, 430, 431, 108, 168, 359, 170, 360, 358] (by decide +kernel) (by decide +kernel)) (gj_app lg_wsX90 (gj_app lg_wsX60 lg_mwX6_readq))))
set_option maxRecDepth 20000 in
theorem lg_mwX0_init : GoodIn lw_tbl mwX0_init := (gj_cons ⟨List.mem_of_getElem? (i := 143) (by decide +kernel), good_of_word (by decide +kernel)⟩ (gj_app (goodIn_r _ [144, 133, 134, 145, 148, 150] (by decide +kernel) (by decide +kernel)) lg_wsX00))
set_option maxRecDepth 20000 in
theorem lg_wsX20 : GoodIn lw_tbl wsX20 := goodIn_r _ [834, 836] (by decide +kernel) (by decide +kernel)
set_option maxRecDepth 20000 in
theorem lg_mwX2_sortTriples : GoodIn lw_tbl mwX2_sortTriples := (gj_cons ⟨List.mem_of_getElem? (i := 815) (by decide +kernel), good_of_word (by decide +kernel)⟩ (goodIn_r _ [818, 816, 817, 126, 592, 593, 530, 529, 120, 819, 591, 112] (by decide +kernel) (by decide +kernel)))
set_option maxRecDepth 20000 in
theorem lg_mwJ7_copyOf_59c91 : GoodIn lw_tbl mwJ7_copyOf_59c91 := (gj_cons ⟨List.mem_of_getElem? (i := 725) (by decide +kernel), good_of_word (by decide +kernel)⟩ (goodIn_r _ [159, 712, 434, 113, 435, 713, 530, 529, 120, 714, 715, 716, 717, 718, 720] (by decide +kernel) (by decide +kernel)))
set_option maxRecDepth 20000 in
theorem lg_mwX2_init : GoodIn lw_tbl mwX2_init := (gj_cons ⟨List.mem_of_getElem? (i := 825) (by decide +kernel), good_of_word (by decide +kernel)⟩ (gj_app (goodIn_r _ [826, 133, 134, 827, 831] (by decide +kernel) (by decide +kernel)) lg_wsX20))
set_option maxRecDepth 20000 in
theorem lg_mwX2_made : GoodIn lw_tbl mwX2_made := (gj_cons ⟨List.mem_of_getElem? (i := 812) (by decide +kernel), good_of_word (by decide +kernel)⟩ (gj_app (goodIn_r _ [813, 814, 126, 820, 821, 822, 724, 121, 823, 824] (by decide +kernel) (by decide +kernel)) (gj_app lg_wsX20 (gj_app lg_mwX2_sortTriples (gj_app lg_mwJ7_copyOf_59c91 lg_mwX2_init)))))
set_option maxRecDepth 20000 in
theorem lg_mwX2_told : GoodIn lw_tbl mwX2_told := (gj_cons ⟨List.mem_of_getElem? (i := 807) (by decide +kernel), good_of_word (by decide +kernel)⟩ (gj_app (goodIn_r _ [808, 434, 113, 435, 809, 244, 245, 159, 810, 811, 126] (by decide +kernel) (by decide +kernel)) lg_mwX2_made))
set_option maxRecDepth 20000 in
theorem lg_wsX10 : GoodIn lw_tbl wsX10 := goodIn_r _ [315, 317, 319, 321, 323, 325, 327, 329, 331, 333, 335] (by decide +kernel) (by decide +kernel)
set_option maxRecDepth 20000 in
theorem lg_wsX50 : GoodIn lw_tbl wsX50 := goodIn_r _ [777, 779, 781, 783, 785, 787, 789, 791, 793, 795, 797, 799, 801] (by decide +kernel) (by decide +kernel)
set_option maxRecDepth 20000 in
theorem lg_mwJ7_fill_53178 : GoodIn lw_tbl mwJ7_fill_53178 := (gj_cons ⟨List.mem_of_getElem? (i := 537) (by decide +kernel), good_of_word (by decide +kernel)⟩ (fun w h => absurd h List.not_mem_nil))
set_option maxRecDepth 20000 in
theorem lg_mwX1_partAt : GoodIn lw_tbl mwX1_partAt := (gj_cons ⟨List.mem_of_getElem? (i := 547) (by decide +kernel), good_of_word (by decide +kernel)⟩ (fun w h => absurd h List.not_mem_nil))
set_option maxRecDepth 20000 in
theorem lg_wsX40 : GoodIn lw_tbl wsX40 := goodIn_r _ [283, 285, 287, 289, 291, 293, 295, 297] (by decide +kernel) (by decide +kernel)
set_option maxRecDepth 20000 in
theorem lg_wsX70 : GoodIn lw_tbl wsX70 := goodIn_r _ [231, 233] (by decide +kernel) (by decide +kernel)
set_option maxRecDepth 20000 in
theorem lg_wsX30 : GoodIn lw_tbl wsX30 := goodIn_r _ [250, 252, 254, 256] (by decide +kernel) (by decide +kernel)
set_option maxRecDepth 20000 in
theorem lg_mwX4_beginBranch : GoodIn lw_tbl mwX4_beginBranch := (gj_cons ⟨List.mem_of_getElem? (i := 551) (by decide +kernel), good_of_word (by decide +kernel)⟩ (gj_app (gj_app (gj_app (goodIn_r _ [259, 555, 230, 229, 552, 553, 554, 111, 262, 559, 249, 248, 556, 557, 558, 112, 266, 269, 272, 275, 278, 281] (by decide +kernel) (by decide +kernel)) lg_wsX40) lg_wsX70) lg_wsX30))
set_option maxRecDepth 20000 in
theorem lg_mwX1_openWhole : GoodIn lw_tbl mwX1_openWhole := (gj_cons ⟨List.mem_of_getElem? (i := 543) (by decide +kernel), good_of_word (by decide +kernel)⟩ (gj_app (goodIn_r _ [305, 544, 546, 12, 109, 548, 549, 550, 110, 306] (by decide +kernel) (by decide +kernel)) (gj_app lg_wsX10 (gj_app lg_mwX1_partAt lg_mwX4_beginBranch))))
set_option maxRecDepth 20000 in
theorem lg_mwX3_setOfRows : GoodIn lw_tbl mwX3_setOfRows := (gj_cons ⟨List.mem_of_getElem? (i := 567) (by decide +kernel), good_of_word (by decide +kernel)⟩ (gj_app (gj_app (goodIn_r _ [249, 571, 230, 568, 569, 570, 111, 575, 229, 572, 573, 574, 578, 581, 584, 585, 582, 583, 124, 579, 580, 123, 576, 577, 597, 246, 247, 593, 530, 529, 120, 248, 600, 598, 599, 112, 594, 596, 14, 588, 589, 586, 587, 592, 590, 591] (by decide +kernel) (by decide +kernel)) lg_wsX30) lg_wsX70))
set_option maxRecDepth 20000 in
theorem lg_mwX3_needBoth : GoodIn lw_tbl mwX3_needBoth := (gj_cons ⟨List.mem_of_getElem? (i := 604) (by decide +kernel), good_of_word (by decide +kernel)⟩ (gj_app (goodIn_r _ [608, 249, 248, 605, 607, 15, 112, 613, 246, 609, 434, 113, 435, 247, 593, 530, 529, 120, 610, 611, 612, 597, 600, 598, 599, 594, 596, 14, 592, 590, 591] (by decide +kernel) (by decide +kernel)) lg_wsX30))
set_option maxRecDepth 20000 in
theorem lg_mwX3_needEither : GoodIn lw_tbl mwX3_needEither := (gj_cons ⟨List.mem_of_getElem? (i := 627) (by decide +kernel), good_of_word (by decide +kernel)⟩ (gj_app (goodIn_r _ [613, 249, 246, 609, 434, 113, 435, 248, 247, 593, 530, 529, 120, 610, 611, 612, 112, 559, 628, 557, 558, 597, 600, 598, 599, 594, 596, 14] (by decide +kernel) (by decide +kernel)) lg_wsX30))
set_option maxRecDepth 20000 in
theorem lg_mwX4_addBranch : GoodIn lw_tbl mwX4_addBranch := (gj_cons ⟨List.mem_of_getElem? (i := 632) (by decide +kernel), good_of_word (by decide +kernel)⟩ (gj_app (gj_app (goodIn_r _ [266, 269, 272, 641, 434, 113, 435, 275, 642, 244, 245, 278, 281, 259, 636, 230, 229, 640, 637, 638, 639, 111, 633, 634, 635] (by decide +kernel) (by decide +kernel)) lg_wsX40) lg_wsX70))
set_option maxRecDepth 20000 in
theorem lg_mwX4_take : GoodIn lw_tbl mwX4_take := (gj_cons ⟨List.mem_of_getElem? (i := 617) (by decide +kernel), good_of_word (by decide +kernel)⟩ (gj_app (gj_app (gj_app (goodIn_r _ [259, 621, 230, 229, 622, 530, 529, 120, 618, 619, 620, 111, 262, 613, 249, 246, 609, 434, 113, 435, 248, 247, 593, 623, 611, 612, 112, 266, 269, 272, 275, 278, 281] (by decide +kernel) (by decide +kernel)) lg_wsX40) lg_wsX70) lg_wsX30))
set_option maxRecDepth 20000 in
theorem lg_mwX1_closeBranch : GoodIn lw_tbl mwX1_closeBranch := (gj_cons ⟨List.mem_of_getElem? (i := 563) (by decide +kernel), good_of_word (by decide +kernel)⟩ (gj_app (goodIn_r _ [305, 544, 546, 12, 109, 304, 309, 261, 311, 564, 565, 566, 112, 264, 310, 601, 602, 603, 276, 624, 625, 626, 629, 630, 631, 110, 548, 549, 550, 306, 614, 615, 616] (by decide +kernel) (by decide +kernel)) (gj_app lg_wsX10 (gj_app lg_wsX40 (gj_app lg_mwX1_partAt (gj_app lg_mwX3_setOfRows (gj_app lg_mwX3_needBoth (gj_app lg_mwX3_needEither (gj_app lg_mwX4_addBranch (gj_app lg_mwX4_beginBranch lg_mwX4_take))))))))))
set_option maxRecDepth 20000 in
theorem lg_mwJ7_checkLength_df160 : GoodIn lw_tbl mwJ7_checkLength_df160 := (gj_cons ⟨List.mem_of_getElem? (i := 711) (by decide +kernel), good_of_word (by decide +kernel)⟩ (fun w h => absurd h List.not_mem_nil))
set_option maxRecDepth 20000 in
theorem lg_mwJ7_copyOfRangeInt_feecc : GoodIn lw_tbl mwJ7_copyOfRangeInt_feecc := (gj_cons ⟨List.mem_of_getElem? (i := 708) (by decide +kernel), good_of_word (by decide +kernel)⟩ (gj_app (goodIn_r _ [709, 710, 121, 159, 712, 434, 113, 435, 713, 530, 529, 120] (by decide +kernel) (by decide +kernel)) lg_mwJ7_checkLength_df160))
set_option maxRecDepth 20000 in
theorem lg_mwJ7_copyOfRange_feecc : GoodIn lw_tbl mwJ7_copyOfRange_feecc := (gj_cons ⟨List.mem_of_getElem? (i := 705) (by decide +kernel), good_of_word (by decide +kernel)⟩ (gj_app (goodIn_r _ [706, 707, 121, 714, 715, 716, 717, 718, 720] (by decide +kernel) (by decide +kernel)) lg_mwJ7_copyOfRangeInt_feecc))
set_option maxRecDepth 20000 in
theorem lg_mwX1_closedWhole : GoodIn lw_tbl mwX1_closedWhole := (gj_cons ⟨List.mem_of_getElem? (i := 646) (by decide +kernel), good_of_word (by decide +kernel)⟩ (gj_app (goodIn_r _ [304, 544, 546, 12, 109, 276, 267, 264, 261, 311, 564, 565, 566, 112] (by decide +kernel) (by decide +kernel)) (gj_app lg_wsX10 (gj_app lg_wsX40 (gj_app lg_mwX1_partAt lg_mwX3_setOfRows)))))
set_option maxRecDepth 20000 in
theorem lg_mwX3_order : GoodIn lw_tbl mwX3_order := (gj_cons ⟨List.mem_of_getElem? (i := 739) (by decide +kernel), good_of_word (by decide +kernel)⟩ (gj_app (goodIn_r _ [249, 159, 743, 248, 609, 434, 113, 435, 247, 740, 742, 22, 112] (by decide +kernel) (by decide +kernel)) lg_wsX30))
set_option maxRecDepth 20000 in
theorem lg_mwX3_startsBy : GoodIn lw_tbl mwX3_startsBy := (gj_cons ⟨List.mem_of_getElem? (i := 747) (by decide +kernel), good_of_word (by decide +kernel)⟩ (gj_app (goodIn_r _ [159, 248] (by decide +kernel) (by decide +kernel)) lg_wsX30))
set_option maxRecDepth 20000 in
theorem lg_mwX3_triplesBy : GoodIn lw_tbl mwX3_triplesBy := (gj_cons ⟨List.mem_of_getElem? (i := 751) (by decide +kernel), good_of_word (by decide +kernel)⟩ (gj_app (goodIn_r _ [159, 247, 248, 593, 530, 529, 120] (by decide +kernel) (by decide +kernel)) lg_wsX30))
set_option maxRecDepth 20000 in
theorem lg_mwX3_insert : GoodIn lw_tbl mwX3_insert := (gj_cons ⟨List.mem_of_getElem? (i := 592) (by decide +kernel), good_of_word (by decide +kernel)⟩ (goodIn_r _ [593, 530, 529, 120] (by decide +kernel) (by decide +kernel)))
set_option maxRecDepth 20000 in
theorem lg_mwX3_unlikeOf : GoodIn lw_tbl mwX3_unlikeOf := (gj_cons ⟨List.mem_of_getElem? (i := 754) (by decide +kernel), good_of_word (by decide +kernel)⟩ (gj_app (goodIn_r _ [159, 755, 724, 121, 590, 591, 112] (by decide +kernel) (by decide +kernel)) (gj_app lg_mwJ7_copyOf_59c91 lg_mwX3_insert)))
set_option maxRecDepth 20000 in
theorem lg_mwX7_inOrder : GoodIn lw_tbl mwX7_inOrder := (gj_cons ⟨List.mem_of_getElem? (i := 735) (by decide +kernel), good_of_word (by decide +kernel)⟩ (gj_app (goodIn_r _ [230, 236, 229] (by decide +kernel) (by decide +kernel)) lg_wsX70))
set_option maxRecDepth 20000 in
theorem lg_mwX5_init2 : GoodIn lw_tbl mwX5_init2 := (gj_cons ⟨List.mem_of_getElem? (i := 730) (by decide +kernel), good_of_word (by decide +kernel)⟩ (gj_app (goodIn_r _ [731, 133, 134, 756, 274, 758, 268, 760, 271, 762, 277, 764, 280, 765, 766, 768, 265, 769, 236, 771, 263, 736, 737, 738, 112, 744, 745, 746, 774, 748, 749, 750, 773, 752, 753, 775, 260, 732, 733, 734, 111] (by decide +kernel) (by decide +kernel)) (gj_app lg_wsX50 (gj_app lg_wsX40 (gj_app lg_mwX3_order (gj_app lg_mwX3_startsBy (gj_app lg_mwX3_triplesBy (gj_app lg_mwX3_unlikeOf lg_mwX7_inOrder))))))))
set_option maxRecDepth 20000 in
theorem lg_mwX9_isSmallw : GoodIn lw_tbl mwX9_isSmallw := (gj_cons ⟨List.mem_of_getElem? (i := 438) (by decide +kernel), good_of_word (by decide +kernel)⟩ (fun w h => absurd h List.not_mem_nil))
set_option maxRecDepth 20000 in
theorem lg_mwX4_setSpot : GoodIn lw_tbl mwX4_setSpot := (gj_cons ⟨List.mem_of_getElem? (i := 656) (by decide +kernel), good_of_word (by decide +kernel)⟩ (gj_app (gj_app (gj_app (goodIn_r _ [262, 559, 249, 248, 556, 557, 558, 112, 259, 660, 230, 657, 658, 659, 111, 663, 664, 665, 666, 661, 662, 124, 266, 269, 272, 275, 278, 281, 669, 667, 668, 640, 229, 670, 638, 639] (by decide +kernel) (by decide +kernel)) lg_wsX40) lg_wsX30) lg_wsX70))
set_option maxRecDepth 20000 in
theorem lg_mwX1_readSpot : GoodIn lw_tbl mwX1_readSpot := (gj_cons ⟨List.mem_of_getElem? (i := 650) (by decide +kernel), good_of_word (by decide +kernel)⟩ (gj_app (goodIn_r _ [106, 437, 314, 307, 653, 654, 655, 110, 313, 651] (by decide +kernel) (by decide +kernel)) (gj_app lg_wsX10 (gj_app lg_mwX9_isSmallw lg_mwX4_setSpot))))
set_option maxRecDepth 20000 in
theorem lg_mwX6_isSign : GoodIn lw_tbl mwX6_isSign := (gj_cons ⟨List.mem_of_getElem? (i := 519) (by decide +kernel), good_of_word (by decide +kernel)⟩ (fun w h => absurd h List.not_mem_nil))
set_option maxRecDepth 20000 in
theorem lg_mwX4_addSign : GoodIn lw_tbl mwX4_addSign := (gj_cons ⟨List.mem_of_getElem? (i := 679) (by decide +kernel), good_of_word (by decide +kernel)⟩ (gj_app (gj_app (gj_app (goodIn_r _ [275, 266, 262, 559, 249, 248, 556, 557, 558, 112, 269, 272, 259, 640, 230, 229, 670, 638, 639, 111] (by decide +kernel) (by decide +kernel)) lg_wsX40) lg_wsX30) lg_wsX70))
set_option maxRecDepth 20000 in
theorem lg_mwX1_addFollow : GoodIn lw_tbl mwX1_addFollow := (gj_cons ⟨List.mem_of_getElem? (i := 683) (by decide +kernel), good_of_word (by decide +kernel)⟩ (gj_app (goodIn_r _ [314, 312] (by decide +kernel) (by decide +kernel)) lg_wsX10))
set_option maxRecDepth 20000 in
theorem lg_mwX1_readSign : GoodIn lw_tbl mwX1_readSign := (gj_cons ⟨List.mem_of_getElem? (i := 674) (by decide +kernel), good_of_word (by decide +kernel)⟩ (gj_app (goodIn_r _ [675, 518, 108, 676, 677, 678, 110, 282, 279, 680, 682, 19, 109] (by decide +kernel) (by decide +kernel)) (gj_app lg_wsX40 (gj_app lg_mwX6_isSign (gj_app lg_mwX4_addSign lg_mwX1_addFollow)))))
set_option maxRecDepth 20000 in
theorem lg_mwX7_join : GoodIn lw_tbl mwX7_join := (gj_cons ⟨List.mem_of_getElem? (i := 691) (by decide +kernel), good_of_word (by decide +kernel)⟩ (gj_app (goodIn_r _ [230, 229, 578, 581, 584, 585, 582, 583, 124, 579, 580, 123, 695, 577, 111, 640, 637, 638, 639, 694, 696, 692, 693] (by decide +kernel) (by decide +kernel)) lg_wsX70))
set_option maxRecDepth 20000 in
theorem lg_mwX7_take : GoodIn lw_tbl mwX7_take := (gj_cons ⟨List.mem_of_getElem? (i := 621) (by decide +kernel), good_of_word (by decide +kernel)⟩ (gj_app (goodIn_r _ [230, 229, 622, 530, 529, 120] (by decide +kernel) (by decide +kernel)) lg_wsX70))
set_option maxRecDepth 20000 in
theorem lg_mwX7_setEmptyRow : GoodIn lw_tbl mwX7_setEmptyRow := (gj_cons ⟨List.mem_of_getElem? (i := 555) (by decide +kernel), good_of_word (by decide +kernel)⟩ (gj_app (goodIn_r _ [230, 229] (by decide +kernel) (by decide +kernel)) lg_wsX70))
set_option maxRecDepth 20000 in
theorem lg_mwX1_addRows : GoodIn lw_tbl mwX1_addRows := (gj_cons ⟨List.mem_of_getElem? (i := 687) (by decide +kernel), good_of_word (by decide +kernel)⟩ (gj_app (goodIn_r _ [267, 309, 261, 311, 564, 565, 566, 112, 264, 310, 601, 602, 603, 308, 688, 689, 690, 111, 698, 619, 620, 697, 553, 554] (by decide +kernel) (by decide +kernel)) (gj_app lg_wsX40 (gj_app lg_wsX10 (gj_app lg_mwX3_setOfRows (gj_app lg_mwX3_needBoth (gj_app lg_mwX7_join (gj_app lg_mwX7_take lg_mwX7_setEmptyRow))))))))
set_option maxRecDepth 20000 in
theorem lg_mwX1_addSpots : GoodIn lw_tbl mwX1_addSpots := (gj_cons ⟨List.mem_of_getElem? (i := 702) (by decide +kernel), good_of_word (by decide +kernel)⟩ (gj_app (goodIn_r _ [282, 279, 680, 682, 19, 109, 270, 273, 276, 538, 244, 113, 245] (by decide +kernel) (by decide +kernel)) (gj_app lg_wsX40 lg_mwX1_addFollow)))
set_option maxRecDepth 20000 in
theorem lg_mwX1_compile : GoodIn lw_tbl mwX1_compile := (gj_cons ⟨List.mem_of_getElem? (i := 534) (by decide +kernel), good_of_word (by decide +kernel)⟩ (gj_app (goodIn_r _ [314, 312, 535, 536, 121, 313, 538, 244, 113, 245, 539, 434, 435, 540, 542, 11, 109, 560, 562, 13, 703, 704, 721, 722, 125, 643, 645, 16, 723, 724, 726, 715, 716, 717, 718, 727, 728, 729, 307, 647, 649, 17, 671, 673, 18, 305, 544, 546, 12, 684, 686, 20, 699, 701, 21] (by decide +kernel) (by decide +kernel)) (gj_app lg_wsX10 (gj_app lg_wsX50 (gj_app lg_mwJ7_fill_53178 (gj_app lg_mwX1_openWhole (gj_app lg_mwX1_closeBranch (gj_app lg_mwJ7_copyOfRange_feecc (gj_app lg_mwX1_closedWhole (gj_app lg_mwJ7_copyOf_59c91 (gj_app lg_mwX5_init2 (gj_app lg_mwX1_readSpot (gj_app lg_mwX1_readSign (gj_app lg_mwX1_partAt (gj_app lg_mwX1_addRows lg_mwX1_addSpots)))))))))))))))
set_option maxRecDepth 20000 in
theorem lg_mwX9_bookBehind : GoodIn lw_tbl mwX9_bookBehind := (gj_cons ⟨List.mem_of_getElem? (i := 527) (by decide +kernel), good_of_word (by decide +kernel)⟩ (gj_app (goodIn_r _ [366, 174, 137, 176, 139, 528, 530, 529, 120, 172, 135, 136, 107, 361, 141, 142, 178, 180, 182, 357, 370, 805, 806, 126, 367, 531, 532, 533, 109] (by decide +kernel) (by decide +kernel)) (gj_app lg_wsX90 (gj_app lg_wsX60 (gj_app lg_wsX00 (gj_app lg_mwX0_init (gj_app lg_mwX2_told lg_mwX1_compile)))))))
set_option maxRecDepth 20000 in
theorem lg_mwX9_act : GoodIn lw_tbl mwX9_act := (gj_cons ⟨List.mem_of_getElem? (i := 842) (by decide +kernel), good_of_word (by decide +kernel)⟩ (gj_app (goodIn_r _ [361, 362, 843, 434, 113, 435] (by decide +kernel) (by decide +kernel)) lg_wsX90))
set_option maxRecDepth 20000 in
theorem lg_mwX9_answer : GoodIn lw_tbl mwX9_answer := (gj_cons ⟨List.mem_of_getElem? (i := 847) (by decide +kernel), good_of_word (by decide +kernel)⟩ (gj_app (goodIn_r _ [356] (by decide +kernel) (by decide +kernel)) lg_wsX90))
set_option maxRecDepth 20000 in
theorem lg_mwX9_loadq : GoodIn lw_tbl mwX9_loadq := (gj_cons ⟨List.mem_of_getElem? (i := 420) (by decide +kernel), good_of_word (by decide +kernel)⟩ (gj_app (goodIn_r _ [421, 423, 1, 106, 358, 425, 427, 2, 137, 139, 524, 526, 10, 839, 841, 23, 361, 147, 844, 846, 24] (by decide +kernel) (by decide +kernel)) (gj_app lg_wsX90 (gj_app lg_wsX00 (gj_app lg_mwX9_refuse (gj_app lg_mwX9_readTapeq (gj_app lg_mwX9_bookBehind (gj_app lg_mwX9_act lg_mwX9_answer))))))))
set_option maxRecDepth 20000 in
theorem lg_mwX10_isFromm : GoodIn lw_tbl mwX10_isFromm := (gj_cons ⟨List.mem_of_getElem? (i := 1286) (by decide +kernel), good_of_word (by decide +kernel)⟩ (fun w h => absurd h List.not_mem_nil))
set_option maxRecDepth 20000 in
theorem lg_mwX10_copiesm : GoodIn lw_tbl mwX10_copiesm := (gj_cons ⟨List.mem_of_getElem? (i := 1298) (by decide +kernel), good_of_word (by decide +kernel)⟩ (gj_app (goodIn_r _ [1123] (by decide +kernel) (by decide +kernel)) lg_wsX100))
set_option maxRecDepth 20000 in
theorem lg_mwX10_byteAtm : GoodIn lw_tbl mwX10_byteAtm := (gj_cons ⟨List.mem_of_getElem? (i := 1306) (by decide +kernel), good_of_word (by decide +kernel)⟩ (gj_app (goodIn_r _ [1130, 1128] (by decide +kernel) (by decide +kernel)) lg_wsX100))
set_option maxRecDepth 20000 in
theorem lg_mwX10_isSmallm : GoodIn lw_tbl mwX10_isSmallm := (gj_cons ⟨List.mem_of_getElem? (i := 1309) (by decide +kernel), good_of_word (by decide +kernel)⟩ (fun w h => absurd h List.not_mem_nil))
set_option maxRecDepth 20000 in
theorem lg_mwX10_aheadmq : GoodIn lw_tbl mwX10_aheadmq := (gj_cons ⟨List.mem_of_getElem? (i := 1302) (by decide +kernel), good_of_word (by decide +kernel)⟩ (gj_app (goodIn_r _ [1133, 1303, 1305, 37, 115, 1132, 1307, 1308, 1131] (by decide +kernel) (by decide +kernel)) (gj_app lg_wsX100 (gj_app lg_mwX10_byteAtm lg_mwX10_isSmallm))))
set_option maxRecDepth 20000 in
theorem lg_mwX10_isWordmq : GoodIn lw_tbl mwX10_isWordmq := (gj_cons ⟨List.mem_of_getElem? (i := 1318) (by decide +kernel), good_of_word (by decide +kernel)⟩ (gj_app (goodIn_r _ [1131, 1319, 448, 449, 116, 1132, 1303, 1305, 37, 115, 1320, 458, 459, 1133] (by decide +kernel) (by decide +kernel)) (gj_app lg_wsX100 (gj_app lg_mwJ0_length_8abf5j (gj_app lg_mwX10_byteAtm lg_mwJ0_charAt_5068ejq)))))
set_option maxRecDepth 20000 in
theorem lg_mwX10_failsAtmq : GoodIn lw_tbl mwX10_failsAtmq := (gj_cons ⟨List.mem_of_getElem? (i := 1329) (by decide +kernel), good_of_word (by decide +kernel)⟩ (gj_app (goodIn_r _ [1134, 1135] (by decide +kernel) (by decide +kernel)) lg_wsX100))
set_option maxRecDepth 20000 in
theorem lg_mwX10_docQuotemq : GoodIn lw_tbl mwX10_docQuotemq := (gj_cons ⟨List.mem_of_getElem? (i := 1333) (by decide +kernel), good_of_word (by decide +kernel)⟩ (gj_app (goodIn_r _ [1123, 1133, 1303, 1305, 37, 115, 1307, 1308, 1326, 1328, 41] (by decide +kernel) (by decide +kernel)) (gj_app lg_wsX100 (gj_app lg_mwX10_byteAtm (gj_app lg_mwX10_isSmallm lg_mwX10_failsAtmq)))))
set_option maxRecDepth 20000 in
theorem lg_mwX10_failsmq : GoodIn lw_tbl mwX10_failsmq := (gj_cons ⟨List.mem_of_getElem? (i := 1325) (by decide +kernel), good_of_word (by decide +kernel)⟩ (gj_app (goodIn_r _ [1131, 1132, 1326, 1328, 41, 115] (by decide +kernel) (by decide +kernel)) (gj_app lg_wsX100 lg_mwX10_failsAtmq)))
set_option maxRecDepth 20000 in
theorem lg_mwX10_isAtomSignm : GoodIn lw_tbl mwX10_isAtomSignm := (gj_cons ⟨List.mem_of_getElem? (i := 1349) (by decide +kernel), good_of_word (by decide +kernel)⟩ (goodIn_r _ [1309, 1307, 1308, 115] (by decide +kernel) (by decide +kernel)))
set_option maxRecDepth 20000 in
theorem lg_mwX10_hasmq : GoodIn lw_tbl mwX10_hasmq := (gj_cons ⟨List.mem_of_getElem? (i := 1360) (by decide +kernel), good_of_word (by decide +kernel)⟩ (fun w h => absurd h List.not_mem_nil))
set_option maxRecDepth 20000 in
theorem lg_mwX10_isSetAtmq : GoodIn lw_tbl mwX10_isSetAtmq := (gj_cons ⟨List.mem_of_getElem? (i := 1357) (by decide +kernel), good_of_word (by decide +kernel)⟩ (gj_app (goodIn_r _ [1133, 1303, 1305, 37, 115, 1307, 1308, 1326, 1328, 41, 1358, 1359] (by decide +kernel) (by decide +kernel)) (gj_app lg_wsX100 (gj_app lg_mwX10_byteAtm (gj_app lg_mwX10_isSmallm (gj_app lg_mwX10_failsAtmq lg_mwX10_hasmq))))))
set_option maxRecDepth 20000 in
theorem lg_mwX10_isAtomAtmq5 : GoodIn lw_tbl mwX10_isAtomAtmq5 := (gj_cons ⟨List.mem_of_getElem? (i := 1353) (by decide +kernel), good_of_word (by decide +kernel)⟩ (gj_app (goodIn_r _ [1133, 1303, 1305, 37, 115, 1137, 1354, 1356, 48, 1326, 1328, 41] (by decide +kernel) (by decide +kernel)) (gj_app lg_wsX100 (gj_app lg_mwX10_byteAtm (gj_app lg_mwX10_isSetAtmq lg_mwX10_failsAtmq)))))
set_option maxRecDepth 20000 in
theorem lg_mwX10_isBranchAtmq5 : GoodIn lw_tbl mwX10_isBranchAtmq5 := (gj_cons ⟨List.mem_of_getElem? (i := 1345) (by decide +kernel), good_of_word (by decide +kernel)⟩ (gj_app (goodIn_r _ [1133, 1303, 1305, 37, 115, 1346, 1348, 46, 1350, 1352, 47, 1326, 1328, 41] (by decide +kernel) (by decide +kernel)) (gj_app lg_wsX100 (gj_app lg_mwX10_byteAtm (gj_app lg_mwX10_isAtomSignm (gj_app lg_mwX10_isAtomAtmq5 lg_mwX10_failsAtmq))))))
set_option maxRecDepth 20000 in
theorem lg_mwX10_isPatternAtmq5 : GoodIn lw_tbl mwX10_isPatternAtmq5 := (gj_cons ⟨List.mem_of_getElem? (i := 1341) (by decide +kernel), good_of_word (by decide +kernel)⟩ (gj_app (goodIn_r _ [1342, 1344, 45, 115, 1133, 1303, 1305, 37] (by decide +kernel) (by decide +kernel)) (gj_app lg_wsX100 (gj_app lg_mwX10_isBranchAtmq5 lg_mwX10_byteAtm))))
set_option maxRecDepth 20000 in
theorem lg_mwX10_isAtomAtmq4 : GoodIn lw_tbl mwX10_isAtomAtmq4 := (gj_cons ⟨List.mem_of_getElem? (i := 1353) (by decide +kernel), good_of_word (by decide +kernel)⟩ (gj_app (goodIn_r _ [1133, 1303, 1305, 37, 115, 1137, 1354, 1356, 48, 1326, 1328, 41, 1338, 1340, 44] (by decide +kernel) (by decide +kernel)) (gj_app lg_wsX100 (gj_app lg_mwX10_byteAtm (gj_app lg_mwX10_isSetAtmq (gj_app lg_mwX10_failsAtmq lg_mwX10_isPatternAtmq5))))))
set_option maxRecDepth 20000 in
theorem lg_mwX10_isBranchAtmq4 : GoodIn lw_tbl mwX10_isBranchAtmq4 := (gj_cons ⟨List.mem_of_getElem? (i := 1345) (by decide +kernel), good_of_word (by decide +kernel)⟩ (gj_app (goodIn_r _ [1133, 1303, 1305, 37, 115, 1346, 1348, 46, 1350, 1352, 47, 1326, 1328, 41] (by decide +kernel) (by decide +kernel)) (gj_app lg_wsX100 (gj_app lg_mwX10_byteAtm (gj_app lg_mwX10_isAtomSignm (gj_app lg_mwX10_isAtomAtmq4 lg_mwX10_failsAtmq))))))
set_option maxRecDepth 20000 in
theorem lg_mwX10_isPatternAtmq4 : GoodIn lw_tbl mwX10_isPatternAtmq4 := (gj_cons ⟨List.mem_of_getElem? (i := 1341) (by decide +kernel), good_of_word (by decide +kernel)⟩ (gj_app (goodIn_r _ [1342, 1344, 45, 115, 1133, 1303, 1305, 37] (by decide +kernel) (by decide +kernel)) (gj_app lg_wsX100 (gj_app lg_mwX10_isBranchAtmq4 lg_mwX10_byteAtm))))
set_option maxRecDepth 20000 in
theorem lg_mwX10_isAtomAtmq3 : GoodIn lw_tbl mwX10_isAtomAtmq3 := (gj_cons ⟨List.mem_of_getElem? (i := 1353) (by decide +kernel), good_of_word (by decide +kernel)⟩ (gj_app (goodIn_r _ [1133, 1303, 1305, 37, 115, 1137, 1354, 1356, 48, 1326, 1328, 41, 1338, 1340, 44] (by decide +kernel) (by decide +kernel)) (gj_app lg_wsX100 (gj_app lg_mwX10_byteAtm (gj_app lg_mwX10_isSetAtmq (gj_app lg_mwX10_failsAtmq lg_mwX10_isPatternAtmq4))))))
set_option maxRecDepth 20000 in
theorem lg_mwX10_isBranchAtmq3 : GoodIn lw_tbl mwX10_isBranchAtmq3 := (gj_cons ⟨List.mem_of_getElem? (i := 1345) (by decide +kernel), good_of_word (by decide +kernel)⟩ (gj_app (goodIn_r _ [1133, 1303, 1305, 37, 115, 1346, 1348, 46, 1350, 1352, 47, 1326, 1328, 41] (by decide +kernel) (by decide +kernel)) (gj_app lg_wsX100 (gj_app lg_mwX10_byteAtm (gj_app lg_mwX10_isAtomSignm (gj_app lg_mwX10_isAtomAtmq3 lg_mwX10_failsAtmq))))))
set_option maxRecDepth 20000 in
theorem lg_mwX10_isPatternAtmq3 : GoodIn lw_tbl mwX10_isPatternAtmq3 := (gj_cons ⟨List.mem_of_getElem? (i := 1341) (by decide +kernel), good_of_word (by decide +kernel)⟩ (gj_app (goodIn_r _ [1342, 1344, 45, 115, 1133, 1303, 1305, 37] (by decide +kernel) (by decide +kernel)) (gj_app lg_wsX100 (gj_app lg_mwX10_isBranchAtmq3 lg_mwX10_byteAtm))))
set_option maxRecDepth 20000 in
theorem lg_mwX10_isAtomAtmq2 : GoodIn lw_tbl mwX10_isAtomAtmq2 := (gj_cons ⟨List.mem_of_getElem? (i := 1353) (by decide +kernel), good_of_word (by decide +kernel)⟩ (gj_app (goodIn_r _ [1133, 1303, 1305, 37, 115, 1137, 1354, 1356, 48, 1326, 1328, 41, 1338, 1340, 44] (by decide +kernel) (by decide +kernel)) (gj_app lg_wsX100 (gj_app lg_mwX10_byteAtm (gj_app lg_mwX10_isSetAtmq (gj_app lg_mwX10_failsAtmq lg_mwX10_isPatternAtmq3))))))
set_option maxRecDepth 20000 in
theorem lg_mwX10_isBranchAtmq2 : GoodIn lw_tbl mwX10_isBranchAtmq2 := (gj_cons ⟨List.mem_of_getElem? (i := 1345) (by decide +kernel), good_of_word (by decide +kernel)⟩ (gj_app (goodIn_r _ [1133, 1303, 1305, 37, 115, 1346, 1348, 46, 1350, 1352, 47, 1326, 1328, 41] (by decide +kernel) (by decide +kernel)) (gj_app lg_wsX100 (gj_app lg_mwX10_byteAtm (gj_app lg_mwX10_isAtomSignm (gj_app lg_mwX10_isAtomAtmq2 lg_mwX10_failsAtmq))))))
set_option maxRecDepth 20000 in
theorem lg_mwX10_isPatternAtmq2 : GoodIn lw_tbl mwX10_isPatternAtmq2 := (gj_cons ⟨List.mem_of_getElem? (i := 1341) (by decide +kernel), good_of_word (by decide +kernel)⟩ (gj_app (goodIn_r _ [1342, 1344, 45, 115, 1133, 1303, 1305, 37] (by decide +kernel) (by decide +kernel)) (gj_app lg_wsX100 (gj_app lg_mwX10_isBranchAtmq2 lg_mwX10_byteAtm))))
set_option maxRecDepth 20000 in
theorem lg_mwX10_isAtomAtmq1 : GoodIn lw_tbl mwX10_isAtomAtmq1 := (gj_cons ⟨List.mem_of_getElem? (i := 1353) (by decide +kernel), good_of_word (by decide +kernel)⟩ (gj_app (goodIn_r _ [1133, 1303, 1305, 37, 115, 1137, 1354, 1356, 48, 1326, 1328, 41, 1338, 1340, 44] (by decide +kernel) (by decide +kernel)) (gj_app lg_wsX100 (gj_app lg_mwX10_byteAtm (gj_app lg_mwX10_isSetAtmq (gj_app lg_mwX10_failsAtmq lg_mwX10_isPatternAtmq2))))))
set_option maxRecDepth 20000 in
theorem lg_mwX10_isBranchAtmq1 : GoodIn lw_tbl mwX10_isBranchAtmq1 := (gj_cons ⟨List.mem_of_getElem? (i := 1345) (by decide +kernel), good_of_word (by decide +kernel)⟩ (gj_app (goodIn_r _ [1133, 1303, 1305, 37, 115, 1346, 1348, 46, 1350, 1352, 47, 1326, 1328, 41] (by decide +kernel) (by decide +kernel)) (gj_app lg_wsX100 (gj_app lg_mwX10_byteAtm (gj_app lg_mwX10_isAtomSignm (gj_app lg_mwX10_isAtomAtmq1 lg_mwX10_failsAtmq))))))
set_option maxRecDepth 20000 in
theorem lg_mwX10_isPatternAtmq1 : GoodIn lw_tbl mwX10_isPatternAtmq1 := (gj_cons ⟨List.mem_of_getElem? (i := 1341) (by decide +kernel), good_of_word (by decide +kernel)⟩ (gj_app (goodIn_r _ [1342, 1344, 45, 115, 1133, 1303, 1305, 37] (by decide +kernel) (by decide +kernel)) (gj_app lg_wsX100 (gj_app lg_mwX10_isBranchAtmq1 lg_mwX10_byteAtm))))
set_option maxRecDepth 20000 in
theorem lg_mwX10_isAtomAtmq0 : GoodIn lw_tbl mwX10_isAtomAtmq0 := (gj_cons ⟨List.mem_of_getElem? (i := 1353) (by decide +kernel), good_of_word (by decide +kernel)⟩ (gj_app (goodIn_r _ [1133, 1303, 1305, 37, 115, 1137, 1354, 1356, 48, 1326, 1328, 41, 1338, 1340, 44] (by decide +kernel) (by decide +kernel)) (gj_app lg_wsX100 (gj_app lg_mwX10_byteAtm (gj_app lg_mwX10_isSetAtmq (gj_app lg_mwX10_failsAtmq lg_mwX10_isPatternAtmq1))))))
set_option maxRecDepth 20000 in
theorem lg_mwX10_isBranchAtmq0 : GoodIn lw_tbl mwX10_isBranchAtmq0 := (gj_cons ⟨List.mem_of_getElem? (i := 1345) (by decide +kernel), good_of_word (by decide +kernel)⟩ (gj_app (goodIn_r _ [1133, 1303, 1305, 37, 115, 1346, 1348, 46, 1350, 1352, 47, 1326, 1328, 41] (by decide +kernel) (by decide +kernel)) (gj_app lg_wsX100 (gj_app lg_mwX10_byteAtm (gj_app lg_mwX10_isAtomSignm (gj_app lg_mwX10_isAtomAtmq0 lg_mwX10_failsAtmq))))))
set_option maxRecDepth 20000 in
theorem lg_mwX10_isPatternAtmq0 : GoodIn lw_tbl mwX10_isPatternAtmq0 := (gj_cons ⟨List.mem_of_getElem? (i := 1341) (by decide +kernel), good_of_word (by decide +kernel)⟩ (gj_app (goodIn_r _ [1342, 1344, 45, 115, 1133, 1303, 1305, 37] (by decide +kernel) (by decide +kernel)) (gj_app lg_wsX100 (gj_app lg_mwX10_isBranchAtmq0 lg_mwX10_byteAtm))))
set_option maxRecDepth 20000 in
theorem lg_mwX10_patternQuotemq : GoodIn lw_tbl mwX10_patternQuotemq := (gj_cons ⟨List.mem_of_getElem? (i := 1337) (by decide +kernel), good_of_word (by decide +kernel)⟩ (gj_app (goodIn_r _ [1133, 1137, 1338, 1340, 44, 115, 1303, 1305, 37, 1123, 1326, 1328, 41] (by decide +kernel) (by decide +kernel)) (gj_app lg_wsX100 (gj_app lg_mwX10_isPatternAtmq0 (gj_app lg_mwX10_byteAtm lg_mwX10_failsAtmq)))))
set_option maxRecDepth 20000 in
theorem lg_mwX10_aLinemq : GoodIn lw_tbl mwX10_aLinemq := (gj_cons ⟨List.mem_of_getElem? (i := 1313) (by decide +kernel), good_of_word (by decide +kernel)⟩ (gj_app (goodIn_r _ [1315, 1317, 39, 115, 1123, 1299, 1301, 36, 1131, 1330, 1332, 42, 1322, 1324, 40, 1334, 1336, 43] (by decide +kernel) (by decide +kernel)) (gj_app lg_wsX100 (gj_app lg_mwX10_isWordmq (gj_app lg_mwX10_aheadmq (gj_app lg_mwX10_docQuotemq (gj_app lg_mwX10_failsmq lg_mwX10_patternQuotemq)))))))
set_option maxRecDepth 20000 in
theorem lg_mwX10_readsmq : GoodIn lw_tbl mwX10_readsmq := (gj_cons ⟨List.mem_of_getElem? (i := 1294) (by decide +kernel), good_of_word (by decide +kernel)⟩ (gj_app (goodIn_r _ [1130, 1129, 1134, 1135, 1133, 1295, 1297, 35, 115, 1123, 1299, 1301, 36, 1136, 1131, 1310, 1312, 38, 1128, 1127] (by decide +kernel) (by decide +kernel)) (gj_app lg_wsX100 (gj_app lg_mwX10_copiesm (gj_app lg_mwX10_aheadmq lg_mwX10_aLinemq)))))
set_option maxRecDepth 20000 in
theorem lg_mwX10_actedmq : GoodIn lw_tbl mwX10_actedmq := (gj_cons ⟨List.mem_of_getElem? (i := 1364) (by decide +kernel), good_of_word (by decide +kernel)⟩ (gj_app (goodIn_r _ [1125, 1295, 1297, 35, 115] (by decide +kernel) (by decide +kernel)) (gj_app lg_wsX100 lg_mwX10_copiesm)))
set_option maxRecDepth 20000 in
theorem lg_mwX10_givesm : GoodIn lw_tbl mwX10_givesm := (gj_cons ⟨List.mem_of_getElem? (i := 1368) (by decide +kernel), good_of_word (by decide +kernel)⟩ (gj_app (goodIn_r _ [1124] (by decide +kernel) (by decide +kernel)) lg_wsX100))
set_option maxRecDepth 20000 in
theorem lg_mwX10_refusem : GoodIn lw_tbl mwX10_refusem := (gj_cons ⟨List.mem_of_getElem? (i := 1290) (by decide +kernel), good_of_word (by decide +kernel)⟩ (gj_app (goodIn_r _ [1124] (by decide +kernel) (by decide +kernel)) lg_wsX100))
set_option maxRecDepth 20000 in
theorem lg_mwX10_loadmq : GoodIn lw_tbl mwX10_loadmq := (gj_cons ⟨List.mem_of_getElem? (i := 1283) (by decide +kernel), good_of_word (by decide +kernel)⟩ (gj_app (goodIn_r _ [1129, 1284, 1285, 115, 1291, 1293, 34, 1361, 1363, 49, 1123, 1365, 1367, 50, 1287, 1289, 33] (by decide +kernel) (by decide +kernel)) (gj_app lg_wsX100 (gj_app lg_mwX10_isFromm (gj_app lg_mwX10_readsmq (gj_app lg_mwX10_actedmq (gj_app lg_mwX10_givesm lg_mwX10_refusem)))))))
set_option maxRecDepth 20000 in
theorem lg_mwX6_readSemicolon : GoodIn lw_tbl mwX6_readSemicolon := (gj_cons ⟨List.mem_of_getElem? (i := 523) (by decide +kernel), good_of_word (by decide +kernel)⟩ (gj_app (goodIn_r _ [185, 499, 167, 169, 496, 498, 4, 108] (by decide +kernel) (by decide +kernel)) lg_wsX60))
set_option maxRecDepth 20000 in
theorem lg_mwX6_endOfPattern : GoodIn lw_tbl mwX6_endOfPattern := (gj_cons ⟨List.mem_of_getElem? (i := 512) (by decide +kernel), good_of_word (by decide +kernel)⟩ (gj_app (goodIn_r _ [499, 167, 169, 496, 498, 4, 108, 438, 106, 437, 516, 513, 515, 8, 500, 244, 113, 245, 519, 517, 518] (by decide +kernel) (by decide +kernel)) lg_wsX60))
set_option maxRecDepth 20000 in
theorem lg_mwX6_endOfDoc2 : GoodIn lw_tbl mwX6_endOfDoc2 := (gj_cons ⟨List.mem_of_getElem? (i := 508) (by decide +kernel), good_of_word (by decide +kernel)⟩ (gj_app (goodIn_r _ [496, 498, 4, 108, 106, 437] (by decide +kernel) (by decide +kernel)) (gj_app lg_mwX6_fail lg_mwX9_isSmallw)))
set_option maxRecDepth 20000 in
theorem lg_mwX6_readQuote : GoodIn lw_tbl mwX6_readQuote := (gj_cons ⟨List.mem_of_getElem? (i := 504) (by decide +kernel), good_of_word (by decide +kernel)⟩ (gj_app (goodIn_r _ [185, 509, 511, 7, 108, 167, 171, 177, 179, 181, 173, 175, 505, 507, 6, 496, 498, 4] (by decide +kernel) (by decide +kernel)) (gj_app lg_wsX60 (gj_app lg_mwX6_endOfPattern (gj_app lg_mwX6_endOfDoc2 lg_mwX6_fail)))))
set_option maxRecDepth 20000 in
theorem lg_mwJ1_charAt_3b067j : GoodIn lw_tbl mwJ1_charAt_3b067j := (gj_cons ⟨List.mem_of_getElem? (i := 467) (by decide +kernel), good_of_word (by decide +kernel)⟩ (gj_app (goodIn_r _ [468, 469, 116] (by decide +kernel) (by decide +kernel)) lg_mwJ0_checkIndex_df160j))
set_option maxRecDepth 20000 in
theorem lg_mwJ0_charAt_5068ej : GoodIn lw_tbl mwJ0_charAt_5068ej := (gj_cons ⟨List.mem_of_getElem? (i := 460) (by decide +kernel), good_of_word (by decide +kernel)⟩ (gj_app (goodIn_r _ [461, 462, 463, 116, 1735, 465, 466, 117] (by decide +kernel) (by decide +kernel)) (gj_app lg_mwJ0_isLatin1_aae02j lg_mwJ1_charAt_3b067j)))
set_option maxRecDepth 20000 in
theorem lg_mwX6_isWord : GoodIn lw_tbl mwX6_isWord := (gj_cons ⟨List.mem_of_getElem? (i := 446) (by decide +kernel), good_of_word (by decide +kernel)⟩ (gj_app (goodIn_r _ [447, 448, 449, 116, 457, 458, 459] (by decide +kernel) (by decide +kernel)) (gj_app lg_mwJ0_length_8abf5j lg_mwJ0_charAt_5068ej)))
set_option maxRecDepth 20000 in
theorem lg_mwX6_readWord : GoodIn lw_tbl mwX6_readWord := (gj_cons ⟨List.mem_of_getElem? (i := 442) (by decide +kernel), good_of_word (by decide +kernel)⟩ (gj_app (goodIn_r _ [444, 445, 108, 185, 496, 498, 4, 184, 175, 183, 173, 106, 437] (by decide +kernel) (by decide +kernel)) (gj_app lg_wsX60 (gj_app lg_mwX6_isWord (gj_app lg_mwX6_fail lg_mwX9_isSmallw)))))
set_option maxRecDepth 20000 in
theorem lg_mwX6_read : GoodIn lw_tbl mwX6_read := (gj_cons ⟨List.mem_of_getElem? (i := 432) (by decide +kernel), good_of_word (by decide +kernel)⟩ (gj_app (goodIn_r _ [167, 169, 171, 173, 175, 183, 184, 185, 433, 434, 113, 435, 496, 498, 4, 108, 106, 437, 520, 522, 9, 501, 503, 5, 500, 244, 245, 439, 441, 3] (by decide +kernel) (by decide +kernel)) (gj_app lg_wsX60 (gj_app lg_mwX6_fail (gj_app lg_mwX9_isSmallw (gj_app lg_mwX6_readSemicolon (gj_app lg_mwX6_readQuote lg_mwX6_readWord)))))))
set_option maxRecDepth 20000 in
theorem lg_mwX9_readTape : GoodIn lw_tbl mwX9_readTape := (gj_cons ⟨List.mem_of_getElem? (i := 428) (by decide +kernel), good_of_word (by decide +kernel)⟩ (gj_app (goodIn_r _ [366, 357, 429, 430, 431, 108, 168, 359, 170, 360, 358] (by decide +kernel) (by decide +kernel)) (gj_app lg_wsX90 (gj_app lg_wsX60 lg_mwX6_read))))
set_option maxRecDepth 20000 in
theorem lg_mwX9_more : GoodIn lw_tbl mwX9_more := (gj_cons ⟨List.mem_of_getElem? (i := 851) (by decide +kernel), good_of_word (by decide +kernel)⟩ (gj_app (goodIn_r _ [421, 423, 1, 106, 358, 361, 147, 149, 425, 427, 2, 524, 526, 10, 839, 841, 23, 366, 172, 844, 846, 24] (by decide +kernel) (by decide +kernel)) (gj_app lg_wsX90 (gj_app lg_wsX00 (gj_app lg_wsX60 (gj_app lg_mwX9_refuse (gj_app lg_mwX9_readTape (gj_app lg_mwX9_bookBehind (gj_app lg_mwX9_act lg_mwX9_answer)))))))))
set_option maxRecDepth 20000 in
theorem lg_mwX10_aheadm : GoodIn lw_tbl mwX10_aheadm := (gj_cons ⟨List.mem_of_getElem? (i := 1302) (by decide +kernel), good_of_word (by decide +kernel)⟩ (gj_app (goodIn_r _ [1133, 1306, 1130, 1128, 1303, 1305, 37, 115, 1132, 1309, 1307, 1308, 1131] (by decide +kernel) (by decide +kernel)) lg_wsX100))
set_option maxRecDepth 20000 in
theorem lg_mwX10_isWordm : GoodIn lw_tbl mwX10_isWordm := (gj_cons ⟨List.mem_of_getElem? (i := 1318) (by decide +kernel), good_of_word (by decide +kernel)⟩ (gj_app (goodIn_r _ [1131, 1319, 448, 449, 116, 1132, 1303, 1305, 37, 115, 1320, 458, 459, 1133] (by decide +kernel) (by decide +kernel)) (gj_app lg_wsX100 (gj_app lg_mwJ0_length_8abf5j (gj_app lg_mwX10_byteAtm lg_mwJ0_charAt_5068ej)))))
set_option maxRecDepth 20000 in
theorem lg_mwX10_patternQuotem : GoodIn lw_tbl mwX10_patternQuotem := (gj_cons ⟨List.mem_of_getElem? (i := 1337) (by decide +kernel), good_of_word (by decide +kernel)⟩ (gj_app (goodIn_r _ [1133, 1137, 1341, 1345, 1306, 1130, 1128, 1303, 1305, 37, 115, 1349, 1309, 1307, 1308, 1346, 1348, 46, 1353, 1357, 1329, 1134, 1135, 1326, 1328, 41, 1360, 1358, 1359, 1354, 1356, 48, 1350, 1352, 47, 1342, 1344, 45, 1338, 1340, 44, 1123] (by decide +kernel) (by decide +kernel)) lg_wsX100))
set_option maxRecDepth 20000 in
theorem lg_mwX10_failsm : GoodIn lw_tbl mwX10_failsm := (gj_cons ⟨List.mem_of_getElem? (i := 1325) (by decide +kernel), good_of_word (by decide +kernel)⟩ (gj_app (goodIn_r _ [1131, 1132, 1329, 1134, 1135, 1326, 1328, 41, 115] (by decide +kernel) (by decide +kernel)) lg_wsX100))
set_option maxRecDepth 20000 in
theorem lg_mwX10_docQuotem : GoodIn lw_tbl mwX10_docQuotem := (gj_cons ⟨List.mem_of_getElem? (i := 1333) (by decide +kernel), good_of_word (by decide +kernel)⟩ (gj_app (goodIn_r _ [1123, 1133, 1306, 1130, 1128, 1303, 1305, 37, 115, 1309, 1307, 1308, 1329, 1134, 1135, 1326, 1328, 41] (by decide +kernel) (by decide +kernel)) lg_wsX100))
set_option maxRecDepth 20000 in
theorem lg_mwX10_aLinem : GoodIn lw_tbl mwX10_aLinem := (gj_cons ⟨List.mem_of_getElem? (i := 1313) (by decide +kernel), good_of_word (by decide +kernel)⟩ (gj_app (goodIn_r _ [1315, 1317, 39, 115, 1123, 1299, 1301, 36, 1131, 1334, 1336, 43, 1322, 1324, 40, 1330, 1332, 42] (by decide +kernel) (by decide +kernel)) (gj_app lg_wsX100 (gj_app lg_mwX10_isWordm (gj_app lg_mwX10_aheadm (gj_app lg_mwX10_patternQuotem (gj_app lg_mwX10_failsm lg_mwX10_docQuotem)))))))
set_option maxRecDepth 20000 in
theorem lg_mwX10_readsm : GoodIn lw_tbl mwX10_readsm := (gj_cons ⟨List.mem_of_getElem? (i := 1294) (by decide +kernel), good_of_word (by decide +kernel)⟩ (gj_app (goodIn_r _ [1130, 1129, 1134, 1135, 1133, 1295, 1297, 35, 115, 1299, 1301, 36, 1136, 1131, 1310, 1312, 38, 1123, 1128, 1127] (by decide +kernel) (by decide +kernel)) (gj_app lg_wsX100 (gj_app lg_mwX10_copiesm (gj_app lg_mwX10_aheadm lg_mwX10_aLinem)))))
set_option maxRecDepth 20000 in
theorem lg_mwX10_actedm : GoodIn lw_tbl mwX10_actedm := (gj_cons ⟨List.mem_of_getElem? (i := 1364) (by decide +kernel), good_of_word (by decide +kernel)⟩ (gj_app (goodIn_r _ [1125, 1295, 1297, 35, 115] (by decide +kernel) (by decide +kernel)) (gj_app lg_wsX100 lg_mwX10_copiesm)))
set_option maxRecDepth 20000 in
theorem lg_mwX10_morem : GoodIn lw_tbl mwX10_morem := (gj_cons ⟨List.mem_of_getElem? (i := 1372) (by decide +kernel), good_of_word (by decide +kernel)⟩ (gj_app (goodIn_r _ [1129, 1284, 1285, 115, 1291, 1293, 34, 1361, 1363, 49, 1123, 1365, 1367, 50, 1287, 1289, 33] (by decide +kernel) (by decide +kernel)) (gj_app lg_wsX100 (gj_app lg_mwX10_isFromm (gj_app lg_mwX10_readsm (gj_app lg_mwX10_actedm (gj_app lg_mwX10_givesm lg_mwX10_refusem)))))))
set_option maxRecDepth 20000 in
theorem lg_mwX9_fault : GoodIn lw_tbl mwX9_fault := (gj_cons ⟨List.mem_of_getElem? (i := 855) (by decide +kernel), good_of_word (by decide +kernel)⟩ (gj_app (goodIn_r _ [360, 359] (by decide +kernel) (by decide +kernel)) lg_wsX90))
set_option maxRecDepth 20000 in
theorem lg_mwX10_faultm : GoodIn lw_tbl mwX10_faultm := (gj_cons ⟨List.mem_of_getElem? (i := 1376) (by decide +kernel), good_of_word (by decide +kernel)⟩ (gj_app (goodIn_r _ [1135, 1136] (by decide +kernel) (by decide +kernel)) lg_wsX100))
set_option maxRecDepth 20000 in
theorem lg_mwX0_allLetters : GoodIn lw_tbl mwX0_allLetters := (gj_cons ⟨List.mem_of_getElem? (i := 863) (by decide +kernel), good_of_word (by decide +kernel)⟩ (gj_app (gj_app (goodIn_r _ [145, 828] (by decide +kernel) (by decide +kernel)) lg_wsX00) lg_wsX20))
set_option maxRecDepth 20000 in
theorem lg_mwX0_allTriples : GoodIn lw_tbl mwX0_allTriples := (gj_cons ⟨List.mem_of_getElem? (i := 867) (by decide +kernel), good_of_word (by decide +kernel)⟩ (gj_app (gj_app (goodIn_r _ [145, 832, 871, 875, 831, 872, 873, 874, 126, 868, 869, 870, 107, 584, 585, 876, 583, 124] (by decide +kernel) (by decide +kernel)) lg_wsX00) lg_wsX20))
set_option maxRecDepth 20000 in
theorem lg_mwX9_many : GoodIn lw_tbl mwX9_many := (gj_cons ⟨List.mem_of_getElem? (i := 859) (by decide +kernel), good_of_word (by decide +kernel)⟩ (gj_app (goodIn_r _ [361, 147, 844, 846, 24, 106, 149, 860, 861, 862, 107, 864, 865, 866, 362, 365, 421, 423, 1] (by decide +kernel) (by decide +kernel)) (gj_app lg_wsX90 (gj_app lg_wsX00 (gj_app lg_mwX9_answer (gj_app lg_mwX0_allLetters (gj_app lg_mwX0_allTriples lg_mwX9_refuse)))))))
set_option maxRecDepth 20000 in
theorem lg_mwX10_sizeOfm : GoodIn lw_tbl mwX10_sizeOfm := (gj_cons ⟨List.mem_of_getElem? (i := 1388) (by decide +kernel), good_of_word (by decide +kernel)⟩ (gj_app (goodIn_r _ [1123] (by decide +kernel) (by decide +kernel)) lg_wsX100))
set_option maxRecDepth 20000 in
theorem lg_mwX10_allLettersm : GoodIn lw_tbl mwX10_allLettersm := (gj_cons ⟨List.mem_of_getElem? (i := 1384) (by decide +kernel), good_of_word (by decide +kernel)⟩ (gj_app (goodIn_r _ [1123, 1385, 1387, 52, 115] (by decide +kernel) (by decide +kernel)) (gj_app lg_wsX100 lg_mwX10_sizeOfm)))
set_option maxRecDepth 20000 in
theorem lg_mwX10_atm : GoodIn lw_tbl mwX10_atm := (gj_cons ⟨List.mem_of_getElem? (i := 1400) (by decide +kernel), good_of_word (by decide +kernel)⟩ (gj_app (goodIn_r _ [1123] (by decide +kernel) (by decide +kernel)) lg_wsX100))
set_option maxRecDepth 20000 in
theorem lg_mwX10_tripleAtm : GoodIn lw_tbl mwX10_tripleAtm := (gj_cons ⟨List.mem_of_getElem? (i := 1396) (by decide +kernel), good_of_word (by decide +kernel)⟩ (gj_app (goodIn_r _ [1397, 1399, 55, 115] (by decide +kernel) (by decide +kernel)) lg_mwX10_atm))
set_option maxRecDepth 20000 in
theorem lg_mwX10_unlikem : GoodIn lw_tbl mwX10_unlikem := (gj_cons ⟨List.mem_of_getElem? (i := 1392) (by decide +kernel), good_of_word (by decide +kernel)⟩ (gj_app (goodIn_r _ [1385, 1387, 52, 115, 1168, 1393, 1395, 54] (by decide +kernel) (by decide +kernel)) (gj_app lg_wsX100 (gj_app lg_mwX10_sizeOfm lg_mwX10_tripleAtm))))
set_option maxRecDepth 20000 in
theorem lg_mwX10_manym : GoodIn lw_tbl mwX10_manym := (gj_cons ⟨List.mem_of_getElem? (i := 1380) (by decide +kernel), good_of_word (by decide +kernel)⟩ (gj_app (goodIn_r _ [1123, 1365, 1367, 50, 115, 1381, 1383, 51, 1389, 1391, 53, 1125, 1126, 1287, 1289, 33] (by decide +kernel) (by decide +kernel)) (gj_app lg_wsX100 (gj_app lg_mwX10_givesm (gj_app lg_mwX10_allLettersm (gj_app lg_mwX10_unlikem lg_mwX10_refusem))))))
set_option maxRecDepth 20000 in
theorem lg_mwX0_docAt : GoodIn lw_tbl mwX0_docAt := (gj_cons ⟨List.mem_of_getElem? (i := 884) (by decide +kernel), good_of_word (by decide +kernel)⟩ (gj_app (goodIn_r _ [145] (by decide +kernel) (by decide +kernel)) lg_wsX00))
set_option maxRecDepth 20000 in
theorem lg_wsX80 : GoodIn lw_tbl wsX80 := goodIn_r _ [349, 351, 353] (by decide +kernel) (by decide +kernel)
set_option maxRecDepth 20000 in
theorem lg_mwX0_patternAt2 : GoodIn lw_tbl mwX0_patternAt2 := (gj_cons ⟨List.mem_of_getElem? (i := 892) (by decide +kernel), good_of_word (by decide +kernel)⟩ (gj_app (goodIn_r _ [148] (by decide +kernel) (by decide +kernel)) lg_wsX00))
set_option maxRecDepth 20000 in
theorem lg_mwX8_through : GoodIn lw_tbl mwX8_through := (gj_cons ⟨List.mem_of_getElem? (i := 912) (by decide +kernel), good_of_word (by decide +kernel)⟩ (gj_app (gj_app (gj_app (gj_app (goodIn_r _ [344, 346, 916, 774, 913, 914, 915, 125, 920, 917, 918, 919, 348, 921, 434, 113, 435, 930, 584, 585, 931, 583, 124, 927, 929, 29, 114, 925, 773, 922, 923, 924, 871, 145, 875, 831, 872, 873, 874, 126, 926, 869, 870, 107, 146] (by decide +kernel) (by decide +kernel)) lg_wsX80) lg_wsX50) lg_wsX00) lg_wsX20))
set_option maxRecDepth 20000 in
theorem lg_mwX9_admittingPatterns : GoodIn lw_tbl mwX9_admittingPatterns := (gj_cons ⟨List.mem_of_getElem? (i := 908) (by decide +kernel), good_of_word (by decide +kernel)⟩ (gj_app (goodIn_r _ [361, 149, 889, 890, 891, 107, 368, 909, 910, 911, 114, 345] (by decide +kernel) (by decide +kernel)) (gj_app lg_wsX90 (gj_app lg_wsX00 (gj_app lg_wsX80 (gj_app lg_mwX0_patternAt2 lg_mwX8_through))))))
set_option maxRecDepth 20000 in
theorem lg_mwX5_fits : GoodIn lw_tbl mwX5_fits := (gj_cons ⟨List.mem_of_getElem? (i := 896) (by decide +kernel), good_of_word (by decide +kernel)⟩ (gj_app (gj_app (goodIn_r _ [760, 830, 764, 900, 766, 897, 899, 26, 125, 904, 768, 901, 903, 27, 765] (by decide +kernel) (by decide +kernel)) lg_wsX50) lg_wsX20))
set_option maxRecDepth 20000 in
theorem lg_mwX9_fittingPatterns : GoodIn lw_tbl mwX9_fittingPatterns := (gj_cons ⟨List.mem_of_getElem? (i := 888) (by decide +kernel), good_of_word (by decide +kernel)⟩ (gj_app (goodIn_r _ [361, 149, 889, 890, 891, 107, 893, 894, 895, 125] (by decide +kernel) (by decide +kernel)) (gj_app lg_wsX90 (gj_app lg_wsX00 (gj_app lg_mwX0_patternAt2 lg_mwX5_fits)))))
set_option maxRecDepth 20000 in
theorem lg_mwX9_document : GoodIn lw_tbl mwX9_document := (gj_cons ⟨List.mem_of_getElem? (i := 880) (by decide +kernel), good_of_word (by decide +kernel)⟩ (gj_app (goodIn_r _ [421, 423, 1, 106, 361, 881, 882, 883, 107, 905, 907, 28, 844, 846, 24, 885, 887, 25, 833, 829] (by decide +kernel) (by decide +kernel)) (gj_app lg_wsX90 (gj_app lg_wsX20 (gj_app lg_mwX9_refuse (gj_app lg_mwX0_docAt (gj_app lg_mwX9_admittingPatterns (gj_app lg_mwX9_answer lg_mwX9_fittingPatterns))))))))
set_option maxRecDepth 20000 in
theorem lg_mwX10_isDocm : GoodIn lw_tbl mwX10_isDocm := (gj_cons ⟨List.mem_of_getElem? (i := 1408) (by decide +kernel), good_of_word (by decide +kernel)⟩ (gj_app (goodIn_r _ [1123] (by decide +kernel) (by decide +kernel)) lg_wsX100))
set_option maxRecDepth 20000 in
theorem lg_mwX10_opensm : GoodIn lw_tbl mwX10_opensm := (gj_cons ⟨List.mem_of_getElem? (i := 1424) (by decide +kernel), good_of_word (by decide +kernel)⟩ (gj_app (goodIn_r _ [1146, 1145, 1144, 1147, 1428, 1432, 1138, 1139, 1140, 1143, 1429, 1431, 62, 115, 1436, 1440, 1123, 1437, 1439, 64, 1444, 1452, 1142, 1141, 1453, 1449, 1451, 67, 1448, 1445, 1447, 66, 1441, 1443, 65, 1433, 1435, 63, 1425, 1427, 61] (by decide +kernel) (by decide +kernel)) lg_wsX100))
set_option maxRecDepth 20000 in
theorem lg_mwX10_walksBranchm : GoodIn lw_tbl mwX10_walksBranchm := (gj_cons ⟨List.mem_of_getElem? (i := 1597) (by decide +kernel), good_of_word (by decide +kernel)⟩ (gj_app (goodIn_r _ [1158, 1159, 1160, 1161, 1162, 1139, 1593, 1360, 1358, 1359, 115, 1163, 1590, 1592, 93, 1532, 244, 113, 245, 1140] (by decide +kernel) (by decide +kernel)) lg_wsX100))
set_option maxRecDepth 20000 in
theorem lg_mwX10_walksItemm : GoodIn lw_tbl mwX10_walksItemm := (gj_cons ⟨List.mem_of_getElem? (i := 1589) (by decide +kernel), good_of_word (by decide +kernel)⟩ (gj_app (goodIn_r _ [1143, 1158, 1159, 1160, 1161, 1162, 1593, 1360, 1358, 1359, 115, 1163, 1590, 1592, 93] (by decide +kernel) (by decide +kernel)) lg_wsX100))
set_option maxRecDepth 20000 in
theorem lg_mwX10_walksPatternm : GoodIn lw_tbl mwX10_walksPatternm := (gj_cons ⟨List.mem_of_getElem? (i := 1601) (by decide +kernel), good_of_word (by decide +kernel)⟩ (gj_app (goodIn_r _ [1158, 1159, 1160, 1161, 1139, 1162, 1602, 434, 113, 435, 1532, 244, 245, 1140] (by decide +kernel) (by decide +kernel)) lg_wsX100))
set_option maxRecDepth 20000 in
theorem lg_mwX10_walksmS : GoodIn lw_tbl mwX10_walksmS := (gj_cons ⟨List.mem_of_getElem? (i := 1585) (by decide +kernel), good_of_word (by decide +kernel)⟩ (gj_app (goodIn_r _ [1139, 1138, 1158, 1159, 1142, 1160, 1161, 1162, 1163, 1164, 1141] (by decide +kernel) (by decide +kernel)) lg_wsX100))
set_option maxRecDepth 20000 in
theorem lg_wgU_walks : GoodIn lw_tbl wgU_walks := (gj_app (goodIn_r _ [1585, 1597, 1589, 1601, 1138, 1139, 1140, 115, 1584, 1596, 1588, 1600, 1582, 1586, 1594, 1598, 91, 94, 92, 95] (by decide +kernel) (by decide +kernel)) (gj_app lg_wsX100 (gj_app lg_mwX10_walksBranchm (gj_app lg_mwX10_walksItemm (gj_app lg_mwX10_walksPatternm lg_mwX10_walksmS)))))
set_option maxRecDepth 20000 in
theorem lg_mwg_X10_walksP : GoodIn lw_tbl mwg_X10_walksP := (gj_cons ⟨List.mem_of_getElem? (i := 1585) (by decide +kernel), good_of_word (by decide +kernel)⟩ lg_wgU_walks)
set_option maxRecDepth 20000 in
theorem lg_mwX10_matchesm : GoodIn lw_tbl mwX10_matchesm := (gj_cons ⟨List.mem_of_getElem? (i := 1581) (by decide +kernel), good_of_word (by decide +kernel)⟩ (gj_app (goodIn_r _ [1421, 1423, 60, 115, 1165, 1582, 1584, 91] (by decide +kernel) (by decide +kernel)) (gj_app lg_wsX100 (gj_app lg_mwX10_opensm lg_mwg_X10_walksP))))
set_option maxRecDepth 20000 in
theorem lg_mwX10_hasm : GoodIn lw_tbl mwX10_hasm := (gj_cons ⟨List.mem_of_getElem? (i := 1360) (by decide +kernel), good_of_word (by decide +kernel)⟩ (fun w h => absurd h List.not_mem_nil))
set_option maxRecDepth 20000 in
theorem lg_mwX10_goesOnm : GoodIn lw_tbl mwX10_goesOnm := (gj_cons ⟨List.mem_of_getElem? (i := 1614) (by decide +kernel), good_of_word (by decide +kernel)⟩ (gj_app (goodIn_r _ [1147, 1358, 1359, 115, 1164, 1163] (by decide +kernel) (by decide +kernel)) (gj_app lg_wsX100 lg_mwX10_hasm)))
set_option maxRecDepth 20000 in
theorem lg_mwX10_longestm : GoodIn lw_tbl mwX10_longestm := (gj_cons ⟨List.mem_of_getElem? (i := 1610) (by decide +kernel), good_of_word (by decide +kernel)⟩ (gj_app (goodIn_r _ [1158, 1165, 1385, 1387, 52, 115, 1397, 1399, 55, 1611, 1613, 98, 1160, 1159] (by decide +kernel) (by decide +kernel)) (gj_app lg_wsX100 (gj_app lg_mwX10_sizeOfm (gj_app lg_mwX10_atm lg_mwX10_goesOnm)))))
set_option maxRecDepth 20000 in
theorem lg_mwX10_firstMatchm : GoodIn lw_tbl mwX10_firstMatchm := (gj_cons ⟨List.mem_of_getElem? (i := 1606) (by decide +kernel), good_of_word (by decide +kernel)⟩ (gj_app (goodIn_r _ [1385, 1387, 52, 115, 1607, 1609, 97] (by decide +kernel) (by decide +kernel)) (gj_app lg_mwX10_sizeOfm lg_mwX10_longestm)))
set_option maxRecDepth 20000 in
theorem lg_mwX10_fittingm : GoodIn lw_tbl mwX10_fittingm := (gj_cons ⟨List.mem_of_getElem? (i := 1577) (by decide +kernel), good_of_word (by decide +kernel)⟩ (gj_app (goodIn_r _ [1578, 1580, 90, 115, 1123, 1603, 1605, 96] (by decide +kernel) (by decide +kernel)) (gj_app lg_wsX100 (gj_app lg_mwX10_matchesm lg_mwX10_firstMatchm))))
set_option maxRecDepth 20000 in
theorem lg_mwX10_newSetm : GoodIn lw_tbl mwX10_newSetm := (gj_cons ⟨List.mem_of_getElem? (i := 1457) (by decide +kernel), good_of_word (by decide +kernel)⟩ (gj_app (goodIn_r _ [1149, 1150] (by decide +kernel) (by decide +kernel)) lg_wsX100))
set_option maxRecDepth 20000 in
theorem lg_mwX10_newNeedm : GoodIn lw_tbl mwX10_newNeedm := (gj_cons ⟨List.mem_of_getElem? (i := 1461) (by decide +kernel), good_of_word (by decide +kernel)⟩ (gj_app (goodIn_r _ [1154, 1465, 1153, 1151, 1462, 1464, 70, 115] (by decide +kernel) (by decide +kernel)) lg_wsX100))
set_option maxRecDepth 20000 in
theorem lg_mwX10_addsRowm : GoodIn lw_tbl mwX10_addsRowm := (gj_cons ⟨List.mem_of_getElem? (i := 1484) (by decide +kernel), good_of_word (by decide +kernel)⟩ (gj_app (goodIn_r _ [1149, 1148] (by decide +kernel) (by decide +kernel)) lg_wsX100))
set_option maxRecDepth 20000 in
theorem lg_mwX10_bothm : GoodIn lw_tbl mwX10_bothm := (gj_cons ⟨List.mem_of_getElem? (i := 1521) (by decide +kernel), good_of_word (by decide +kernel)⟩ (gj_app (goodIn_r _ [1155, 1153, 1507, 1156, 1152, 1513, 1511, 1512, 115, 1510, 1508, 1509, 1504, 1506, 77, 1517, 1151, 1514, 1516, 78, 1524, 1522, 1523] (by decide +kernel) (by decide +kernel)) lg_wsX100))
set_option maxRecDepth 20000 in
theorem lg_mwX10_copiesNeedm : GoodIn lw_tbl mwX10_copiesNeedm := (gj_cons ⟨List.mem_of_getElem? (i := 1547) (by decide +kernel), good_of_word (by decide +kernel)⟩ (gj_app (goodIn_r _ [1153, 1151, 1513, 1511, 1512, 115] (by decide +kernel) (by decide +kernel)) lg_wsX100))
set_option maxRecDepth 20000 in
theorem lg_mwX10_copiesSetm : GoodIn lw_tbl mwX10_copiesSetm := (gj_cons ⟨List.mem_of_getElem? (i := 1539) (by decide +kernel), good_of_word (by decide +kernel)⟩ (gj_app (goodIn_r _ [1149, 1148] (by decide +kernel) (by decide +kernel)) lg_wsX100))
set_option maxRecDepth 20000 in
theorem lg_mwX10_crossesm : GoodIn lw_tbl mwX10_crossesm := (gj_cons ⟨List.mem_of_getElem? (i := 1528) (by decide +kernel), good_of_word (by decide +kernel)⟩ (gj_app (goodIn_r _ [1149, 1148, 1480, 1478, 1479, 115, 1535, 1499, 1500, 1497, 1498, 1476, 1477, 1474, 1475, 1533, 1534, 1484, 1481, 1483, 73, 1531, 1532, 244, 113, 245, 1529, 1530] (by decide +kernel) (by decide +kernel)) lg_wsX100))
set_option maxRecDepth 20000 in
theorem lg_mwX10_eitherm : GoodIn lw_tbl mwX10_eitherm := (gj_cons ⟨List.mem_of_getElem? (i := 1551) (by decide +kernel), good_of_word (by decide +kernel)⟩ (gj_app (goodIn_r _ [1155, 1153, 1507, 1156, 1152, 1513, 1511, 1512, 115, 1510, 1508, 1509, 1504, 1506, 77, 1517, 1151, 1514, 1516, 78, 1465, 1462, 1464, 70] (by decide +kernel) (by decide +kernel)) lg_wsX100))
set_option maxRecDepth 20000 in
theorem lg_mwX10_ofRowsm : GoodIn lw_tbl mwX10_ofRowsm := (gj_cons ⟨List.mem_of_getElem? (i := 1496) (by decide +kernel), good_of_word (by decide +kernel)⟩ (gj_app (goodIn_r _ [1155, 1149, 1507, 1156, 1152, 1513, 1511, 1512, 115, 1510, 1508, 1509, 1504, 1506, 77, 1517, 1153, 1151, 1514, 1516, 78, 1148, 1480, 1478, 1479, 1499, 1500, 1497, 1498, 1503, 1501, 1502] (by decide +kernel) (by decide +kernel)) lg_wsX100))
set_option maxRecDepth 20000 in
theorem lg_mwX10_oneEmptym : GoodIn lw_tbl mwX10_oneEmptym := (gj_cons ⟨List.mem_of_getElem? (i := 1465) (by decide +kernel), good_of_word (by decide +kernel)⟩ (gj_app (goodIn_r _ [1153, 1151] (by decide +kernel) (by decide +kernel)) lg_wsX100))
set_option maxRecDepth 20000 in
theorem lg_mwX10_worksOutmS : GoodIn lw_tbl mwX10_worksOutmS := (gj_cons ⟨List.mem_of_getElem? (i := 1469) (by decide +kernel), good_of_word (by decide +kernel)⟩ (gj_app (goodIn_r _ [1138, 1473, 1149, 1465, 1153, 1151, 1462, 1464, 70, 115, 1141, 1360, 1358, 1359, 1476, 1477, 1480, 1478, 1479, 1474, 1475, 1484, 1148, 1481, 1483, 73, 1470, 1472, 72] (by decide +kernel) (by decide +kernel)) lg_wsX100))
set_option maxRecDepth 20000 in
theorem lg_wgU_works : GoodIn lw_tbl wgU_works := (gj_app (goodIn_r _ [1492, 1488, 1469, 1543, 1150, 1138, 1154, 1139, 1140, 1143, 1148, 1149, 115, 1483, 1520, 1546, 1538, 1527, 1550, 1460, 1456, 1495, 1464, 1491, 1487, 1468, 1542, 1481, 1462, 1485, 1489, 1540, 1466, 1454, 1458, 1493, 1518, 1525, 1536, 1544, 1548, 73, 79, 83, 81, 80, 84, 69, 68, 76, 70, 75, 74, 71, 82] (by decide +kernel) (by decide +kernel)) (gj_app lg_wsX100 (gj_app lg_mwX10_addsRowm (gj_app lg_mwX10_bothm (gj_app lg_mwX10_copiesNeedm (gj_app lg_mwX10_copiesSetm (gj_app lg_mwX10_crossesm (gj_app lg_mwX10_eitherm (gj_app lg_mwX10_newNeedm (gj_app lg_mwX10_newSetm (gj_app lg_mwX10_ofRowsm (gj_app lg_mwX10_oneEmptym lg_mwX10_worksOutmS))))))))))))
set_option maxRecDepth 20000 in
theorem lg_mwg_X10_worksOutP : GoodIn lw_tbl mwg_X10_worksOutP := (gj_cons ⟨List.mem_of_getElem? (i := 1469) (by decide +kernel), good_of_word (by decide +kernel)⟩ lg_wgU_works)
set_option maxRecDepth 20000 in
theorem lg_mwX10_isAhead_m : GoodIn lw_tbl mwX10_isAhead_m := (gj_cons ⟨List.mem_of_getElem? (i := 1561) (by decide +kernel), good_of_word (by decide +kernel)⟩ (goodIn_r _ [1480, 1478, 1479, 115, 1499, 1500, 1497, 1498] (by decide +kernel) (by decide +kernel)))
set_option maxRecDepth 20000 in
theorem lg_mwX10_isAheadm : GoodIn lw_tbl mwX10_isAheadm := (gj_cons ⟨List.mem_of_getElem? (i := 1554) (by decide +kernel), good_of_word (by decide +kernel)⟩ (fun w h => absurd h List.not_mem_nil))
set_option maxRecDepth 20000 in
theorem lg_mwX10_swapsNeedm : GoodIn lw_tbl mwX10_swapsNeedm := (gj_cons ⟨List.mem_of_getElem? (i := 1558) (by decide +kernel), good_of_word (by decide +kernel)⟩ (gj_app (goodIn_r _ [1151] (by decide +kernel) (by decide +kernel)) lg_wsX100))
set_option maxRecDepth 20000 in
theorem lg_mwX10_needsOfm : GoodIn lw_tbl mwX10_needsOfm := (gj_cons ⟨List.mem_of_getElem? (i := 1420) (by decide +kernel), good_of_word (by decide +kernel)⟩ (gj_app (goodIn_r _ [1421, 1423, 60, 115, 1150, 1154, 1454, 1456, 68, 1458, 1460, 69, 1466, 1468, 71, 1157, 1153, 1149, 1148, 1559, 1560, 1151, 1552, 1553, 1555, 1557, 85] (by decide +kernel) (by decide +kernel)) (gj_app lg_wsX100 (gj_app lg_mwX10_opensm (gj_app lg_mwX10_newSetm (gj_app lg_mwX10_newNeedm (gj_app lg_mwg_X10_worksOutP (gj_app lg_mwX10_isAhead_m (gj_app lg_mwX10_isAheadm lg_mwX10_swapsNeedm)))))))))
set_option maxRecDepth 20000 in
theorem lg_mwX10_standsm : GoodIn lw_tbl mwX10_standsm := (gj_cons ⟨List.mem_of_getElem? (i := 1573) (by decide +kernel), good_of_word (by decide +kernel)⟩ (gj_app (goodIn_r _ [1385, 1387, 52, 115, 1393, 1395, 54] (by decide +kernel) (by decide +kernel)) (gj_app lg_mwX10_sizeOfm lg_mwX10_tripleAtm)))
set_option maxRecDepth 20000 in
theorem lg_mwX10_listOfm : GoodIn lw_tbl mwX10_listOfm := (gj_cons ⟨List.mem_of_getElem? (i := 1569) (by decide +kernel), good_of_word (by decide +kernel)⟩ (gj_app (goodIn_r _ [1123, 1570, 1572, 88, 115] (by decide +kernel) (by decide +kernel)) (gj_app lg_wsX100 lg_mwX10_standsm)))
set_option maxRecDepth 20000 in
theorem lg_mwX10_candidatesOfm : GoodIn lw_tbl mwX10_candidatesOfm := (gj_cons ⟨List.mem_of_getElem? (i := 1565) (by decide +kernel), good_of_word (by decide +kernel)⟩ (gj_app (goodIn_r _ [1166, 1123, 1167, 1358, 1359, 115, 1566, 1568, 87] (by decide +kernel) (by decide +kernel)) (gj_app lg_wsX100 (gj_app lg_mwX10_hasm lg_mwX10_listOfm))))
set_option maxRecDepth 20000 in
theorem lg_mwX10_candidatesm : GoodIn lw_tbl mwX10_candidatesm := (gj_cons ⟨List.mem_of_getElem? (i := 1416) (by decide +kernel), good_of_word (by decide +kernel)⟩ (gj_app (goodIn_r _ [1417, 1419, 59, 115, 1166, 1153, 1151, 1562, 1564, 86] (by decide +kernel) (by decide +kernel)) (gj_app lg_wsX100 (gj_app lg_mwX10_needsOfm lg_mwX10_candidatesOfm))))
set_option maxRecDepth 20000 in
theorem lg_mwX10_patternsOfm : GoodIn lw_tbl mwX10_patternsOfm := (gj_cons ⟨List.mem_of_getElem? (i := 1412) (by decide +kernel), good_of_word (by decide +kernel)⟩ (gj_app (goodIn_r _ [1123, 1574, 1576, 89, 115, 1358, 1359, 1413, 1415, 58] (by decide +kernel) (by decide +kernel)) (gj_app lg_wsX100 (gj_app lg_mwX10_fittingm (gj_app lg_mwX10_hasm lg_mwX10_candidatesm)))))
set_option maxRecDepth 20000 in
theorem lg_mwX10_documentm : GoodIn lw_tbl mwX10_documentm := (gj_cons ⟨List.mem_of_getElem? (i := 1404) (by decide +kernel), good_of_word (by decide +kernel)⟩ (gj_app (goodIn_r _ [1284, 1285, 115, 1405, 1407, 56, 1409, 1411, 57, 1365, 1367, 50, 1389, 1391, 53, 1385, 1387, 52, 1287, 1289, 33] (by decide +kernel) (by decide +kernel)) (gj_app lg_mwX10_isFromm (gj_app lg_mwX10_isDocm (gj_app lg_mwX10_patternsOfm (gj_app lg_mwX10_givesm (gj_app lg_mwX10_unlikem (gj_app lg_mwX10_sizeOfm lg_mwX10_refusem))))))))
set_option maxRecDepth 20000 in
theorem lg_mwX9_letter : GoodIn lw_tbl mwX9_letter := (gj_cons ⟨List.mem_of_getElem? (i := 935) (by decide +kernel), good_of_word (by decide +kernel)⟩ (gj_app (goodIn_r _ [361, 881, 882, 883, 107, 421, 423, 1, 106, 829, 844, 846, 24] (by decide +kernel) (by decide +kernel)) (gj_app lg_wsX90 (gj_app lg_wsX20 (gj_app lg_mwX0_docAt (gj_app lg_mwX9_refuse lg_mwX9_answer))))))
set_option maxRecDepth 20000 in
theorem lg_mwX10_letterm : GoodIn lw_tbl mwX10_letterm := (gj_cons ⟨List.mem_of_getElem? (i := 1618) (by decide +kernel), good_of_word (by decide +kernel)⟩ (gj_app (goodIn_r _ [1405, 1407, 56, 115, 1385, 1387, 52, 1287, 1289, 33, 1397, 1399, 55, 1365, 1367, 50] (by decide +kernel) (by decide +kernel)) (gj_app lg_mwX10_isDocm (gj_app lg_mwX10_sizeOfm (gj_app lg_mwX10_refusem (gj_app lg_mwX10_atm lg_mwX10_givesm))))))
set_option maxRecDepth 20000 in
theorem lg_mwX5_choices : GoodIn lw_tbl mwX5_choices := (gj_cons ⟨List.mem_of_getElem? (i := 916) (by decide +kernel), good_of_word (by decide +kernel)⟩ (gj_app (goodIn_r _ [774] (by decide +kernel) (by decide +kernel)) lg_wsX50))
set_option maxRecDepth 20000 in
theorem lg_mwX9_pattern : GoodIn lw_tbl mwX9_pattern := (gj_cons ⟨List.mem_of_getElem? (i := 939) (by decide +kernel), good_of_word (by decide +kernel)⟩ (gj_app (goodIn_r _ [421, 423, 1, 106, 361, 889, 890, 891, 107, 757, 844, 846, 24, 767, 940, 914, 915, 125, 770, 772, 761, 763, 776, 759] (by decide +kernel) (by decide +kernel)) (gj_app lg_wsX90 (gj_app lg_wsX50 (gj_app lg_mwX9_refuse (gj_app lg_mwX0_patternAt2 (gj_app lg_mwX9_answer lg_mwX5_choices)))))))
set_option maxRecDepth 20000 in
theorem lg_mwX10_isPatternm : GoodIn lw_tbl mwX10_isPatternm := (gj_cons ⟨List.mem_of_getElem? (i := 1626) (by decide +kernel), good_of_word (by decide +kernel)⟩ (gj_app (goodIn_r _ [1123] (by decide +kernel) (by decide +kernel)) lg_wsX100))
set_option maxRecDepth 20000 in
theorem lg_mwX10_addsmT : GoodIn lw_tbl mwX10_addsmT := (gj_cons ⟨List.mem_of_getElem? (i := 1503) (by decide +kernel), good_of_word (by decide +kernel)⟩ (fun w h => absurd h List.not_mem_nil))
set_option maxRecDepth 20000 in
theorem lg_mwX10_layTriplesm : GoodIn lw_tbl mwX10_layTriplesm := (gj_cons ⟨List.mem_of_getElem? (i := 1630) (by decide +kernel), good_of_word (by decide +kernel)⟩ (gj_app (goodIn_r _ [1169, 1153, 1151, 1501, 1502, 115] (by decide +kernel) (by decide +kernel)) (gj_app lg_wsX100 lg_mwX10_addsmT)))
set_option maxRecDepth 20000 in
theorem lg_mwX10_patternm : GoodIn lw_tbl mwX10_patternm := (gj_cons ⟨List.mem_of_getElem? (i := 1622) (by decide +kernel), good_of_word (by decide +kernel)⟩ (gj_app (goodIn_r _ [1284, 1285, 115, 1623, 1625, 99, 1417, 1419, 59, 1578, 1580, 90, 1123, 1365, 1367, 50, 1147, 1153, 1157, 1149, 1158, 1165, 1161, 1627, 1629, 100, 1162, 1287, 1289, 33] (by decide +kernel) (by decide +kernel)) (gj_app lg_wsX100 (gj_app lg_mwX10_isFromm (gj_app lg_mwX10_isPatternm (gj_app lg_mwX10_needsOfm (gj_app lg_mwX10_matchesm (gj_app lg_mwX10_givesm (gj_app lg_mwX10_layTriplesm lg_mwX10_refusem)))))))))
set_option maxRecDepth 20000 in
theorem lg_mwX9_sign : GoodIn lw_tbl mwX9_sign := (gj_cons ⟨List.mem_of_getElem? (i := 944) (by decide +kernel), good_of_word (by decide +kernel)⟩ (gj_app (goodIn_r _ [361, 889, 890, 891, 107, 421, 423, 1, 106, 757, 844, 846, 24] (by decide +kernel) (by decide +kernel)) (gj_app lg_wsX90 (gj_app lg_wsX50 (gj_app lg_mwX0_patternAt2 (gj_app lg_mwX9_refuse lg_mwX9_answer))))))
set_option maxRecDepth 20000 in
theorem lg_mwX10_signm : GoodIn lw_tbl mwX10_signm := (gj_cons ⟨List.mem_of_getElem? (i := 1634) (by decide +kernel), good_of_word (by decide +kernel)⟩ (gj_app (goodIn_r _ [1623, 1625, 99, 115, 1123, 1287, 1289, 33, 1365, 1367, 50] (by decide +kernel) (by decide +kernel)) (gj_app lg_wsX100 (gj_app lg_mwX10_isPatternm (gj_app lg_mwX10_refusem lg_mwX10_givesm)))))
set_option maxRecDepth 20000 in
theorem lg_mwX7_lettersOf : GoodIn lw_tbl mwX7_lettersOf := (gj_cons ⟨List.mem_of_getElem? (i := 578) (by decide +kernel), good_of_word (by decide +kernel)⟩ (goodIn_r _ [581, 584, 585, 582, 583, 124, 579, 580, 123] (by decide +kernel) (by decide +kernel)))
set_option maxRecDepth 20000 in
theorem lg_mwX7_letterOf : GoodIn lw_tbl mwX7_letterOf := (gj_cons ⟨List.mem_of_getElem? (i := 588) (by decide +kernel), good_of_word (by decide +kernel)⟩ (goodIn_r _ [589] (by decide +kernel) (by decide +kernel)))
set_option maxRecDepth 20000 in
theorem lg_mwX9_exact : GoodIn lw_tbl mwX9_exact := (gj_cons ⟨List.mem_of_getElem? (i := 948) (by decide +kernel), good_of_word (by decide +kernel)⟩ (gj_app (goodIn_r _ [421, 423, 1, 106, 361, 889, 890, 891, 107, 772, 949, 577, 111, 950, 587, 844, 846, 24] (by decide +kernel) (by decide +kernel)) (gj_app lg_wsX90 (gj_app lg_wsX50 (gj_app lg_mwX9_refuse (gj_app lg_mwX0_patternAt2 (gj_app lg_mwX7_lettersOf (gj_app lg_mwX7_letterOf lg_mwX9_answer))))))))
set_option maxRecDepth 20000 in
theorem lg_mwX10_longOfm : GoodIn lw_tbl mwX10_longOfm := (gj_cons ⟨List.mem_of_getElem? (i := 1480) (by decide +kernel), good_of_word (by decide +kernel)⟩ (fun w h => absurd h List.not_mem_nil))
set_option maxRecDepth 20000 in
theorem lg_mwX10_letterInm : GoodIn lw_tbl mwX10_letterInm := (gj_cons ⟨List.mem_of_getElem? (i := 1499) (by decide +kernel), good_of_word (by decide +kernel)⟩ (goodIn_r _ [1500] (by decide +kernel) (by decide +kernel)))
set_option maxRecDepth 20000 in
theorem lg_mwX10_exactm : GoodIn lw_tbl mwX10_exactm := (gj_cons ⟨List.mem_of_getElem? (i := 1638) (by decide +kernel), good_of_word (by decide +kernel)⟩ (gj_app (goodIn_r _ [1287, 1289, 33, 115, 1623, 1625, 99, 1417, 1419, 59, 1157, 1149, 1148, 1478, 1479, 1497, 1498, 1365, 1367, 50] (by decide +kernel) (by decide +kernel)) (gj_app lg_wsX100 (gj_app lg_mwX10_refusem (gj_app lg_mwX10_isPatternm (gj_app lg_mwX10_needsOfm (gj_app lg_mwX10_longOfm (gj_app lg_mwX10_letterInm lg_mwX10_givesm))))))))
set_option maxRecDepth 20000 in
theorem lg_mwX5_sizeOf : GoodIn lw_tbl mwX5_sizeOf := (gj_cons ⟨List.mem_of_getElem? (i := 920) (by decide +kernel), good_of_word (by decide +kernel)⟩ (gj_app (goodIn_r _ [774] (by decide +kernel) (by decide +kernel)) lg_wsX50))
set_option maxRecDepth 20000 in
theorem lg_mwX5_tripleAt : GoodIn lw_tbl mwX5_tripleAt := (gj_cons ⟨List.mem_of_getElem? (i := 925) (by decide +kernel), good_of_word (by decide +kernel)⟩ (gj_app (goodIn_r _ [774, 773] (by decide +kernel) (by decide +kernel)) lg_wsX50))
set_option maxRecDepth 20000 in
theorem lg_mwX9_need : GoodIn lw_tbl mwX9_need := (gj_cons ⟨List.mem_of_getElem? (i := 954) (by decide +kernel), good_of_word (by decide +kernel)⟩ (gj_app (goodIn_r _ [421, 423, 1, 106, 361, 889, 890, 891, 107, 940, 914, 915, 125, 955, 918, 919, 956, 923, 924, 844, 846, 24] (by decide +kernel) (by decide +kernel)) (gj_app lg_wsX90 (gj_app lg_mwX9_refuse (gj_app lg_mwX0_patternAt2 (gj_app lg_mwX5_choices (gj_app lg_mwX5_sizeOf (gj_app lg_mwX5_tripleAt lg_mwX9_answer))))))))
set_option maxRecDepth 20000 in
theorem lg_mwX10_needm : GoodIn lw_tbl mwX10_needm := (gj_cons ⟨List.mem_of_getElem? (i := 1642) (by decide +kernel), good_of_word (by decide +kernel)⟩ (gj_app (goodIn_r _ [1287, 1289, 33, 115, 1623, 1625, 99, 1417, 1419, 59, 1153, 1151, 1365, 1367, 50] (by decide +kernel) (by decide +kernel)) (gj_app lg_wsX100 (gj_app lg_mwX10_refusem (gj_app lg_mwX10_isPatternm (gj_app lg_mwX10_needsOfm lg_mwX10_givesm))))))
set_option maxRecDepth 20000 in
theorem lg_mwX9_isTriple : GoodIn lw_tbl mwX9_isTriple := (gj_cons ⟨List.mem_of_getElem? (i := 963) (by decide +kernel), good_of_word (by decide +kernel)⟩ (fun w h => absurd h List.not_mem_nil))
set_option maxRecDepth 20000 in
theorem lg_mwX0_listBits : GoodIn lw_tbl mwX0_listBits := (gj_cons ⟨List.mem_of_getElem? (i := 871) (by decide +kernel), good_of_word (by decide +kernel)⟩ (gj_app (gj_app (goodIn_r _ [145, 875, 831, 872, 873, 874, 126] (by decide +kernel) (by decide +kernel)) lg_wsX00) lg_wsX20))
set_option maxRecDepth 20000 in
theorem lg_mwJ6_bitCount_0f7a4 : GoodIn lw_tbl mwJ6_bitCount_0f7a4 := (gj_cons ⟨List.mem_of_getElem? (i := 663) (by decide +kernel), good_of_word (by decide +kernel)⟩ (goodIn_r _ [664, 665, 666] (by decide +kernel) (by decide +kernel)))
set_option maxRecDepth 20000 in
theorem lg_mwJ6_numberOfTrailingZeros_0f7a4 : GoodIn lw_tbl mwJ6_numberOfTrailingZeros_0f7a4 := (gj_cons ⟨List.mem_of_getElem? (i := 584) (by decide +kernel), good_of_word (by decide +kernel)⟩ (goodIn_r _ [585] (by decide +kernel) (by decide +kernel)))
set_option maxRecDepth 20000 in
theorem lg_mwX9_list : GoodIn lw_tbl mwX9_list := (gj_cons ⟨List.mem_of_getElem? (i := 960) (by decide +kernel), good_of_word (by decide +kernel)⟩ (gj_app (goodIn_r _ [961, 962, 106, 421, 423, 1, 361, 964, 869, 870, 107, 965, 662, 124, 966, 583, 844, 846, 24] (by decide +kernel) (by decide +kernel)) (gj_app lg_wsX90 (gj_app lg_mwX9_isTriple (gj_app lg_mwX9_refuse (gj_app lg_mwX0_listBits (gj_app lg_mwJ6_bitCount_0f7a4 (gj_app lg_mwJ6_numberOfTrailingZeros_0f7a4 lg_mwX9_answer))))))))
set_option maxRecDepth 20000 in
theorem lg_mwX10_listm : GoodIn lw_tbl mwX10_listm := (gj_cons ⟨List.mem_of_getElem? (i := 1646) (by decide +kernel), good_of_word (by decide +kernel)⟩ (gj_app (goodIn_r _ [1284, 1285, 115, 1287, 1289, 33, 1566, 1568, 87, 1123, 1358, 1359, 1365, 1367, 50] (by decide +kernel) (by decide +kernel)) (gj_app lg_wsX100 (gj_app lg_mwX10_isFromm (gj_app lg_mwX10_refusem (gj_app lg_mwX10_listOfm (gj_app lg_mwX10_hasm lg_mwX10_givesm)))))))
set_option maxRecDepth 20000 in
theorem lg_mwX2_timesOf : GoodIn lw_tbl mwX2_timesOf := (gj_cons ⟨List.mem_of_getElem? (i := 974) (by decide +kernel), good_of_word (by decide +kernel)⟩ (gj_app (goodIn_r _ [827, 818, 816, 817, 126] (by decide +kernel) (by decide +kernel)) lg_wsX20))
set_option maxRecDepth 20000 in
theorem lg_mwX9_often : GoodIn lw_tbl mwX9_often := (gj_cons ⟨List.mem_of_getElem? (i := 970) (by decide +kernel), good_of_word (by decide +kernel)⟩ (gj_app (goodIn_r _ [961, 962, 106, 361, 881, 882, 883, 107, 421, 423, 1, 971, 972, 973, 126, 844, 846, 24] (by decide +kernel) (by decide +kernel)) (gj_app lg_wsX90 (gj_app lg_mwX9_isTriple (gj_app lg_mwX0_docAt (gj_app lg_mwX9_refuse (gj_app lg_mwX2_timesOf lg_mwX9_answer)))))))
set_option maxRecDepth 20000 in
theorem lg_mwX10_oftenm : GoodIn lw_tbl mwX10_oftenm := (gj_cons ⟨List.mem_of_getElem? (i := 1650) (by decide +kernel), good_of_word (by decide +kernel)⟩ (gj_app (goodIn_r _ [1284, 1285, 115, 1405, 1407, 56, 1385, 1387, 52, 1365, 1367, 50, 1393, 1395, 54, 1287, 1289, 33] (by decide +kernel) (by decide +kernel)) (gj_app lg_mwX10_isFromm (gj_app lg_mwX10_isDocm (gj_app lg_mwX10_sizeOfm (gj_app lg_mwX10_givesm (gj_app lg_mwX10_tripleAtm lg_mwX10_refusem)))))))
set_option maxRecDepth 20000 in
theorem lg_mwX9_fittingDocuments : GoodIn lw_tbl mwX9_fittingDocuments := (gj_cons ⟨List.mem_of_getElem? (i := 982) (by decide +kernel), good_of_word (by decide +kernel)⟩ (gj_app (goodIn_r _ [361, 147, 881, 882, 883, 107, 893, 894, 895, 125] (by decide +kernel) (by decide +kernel)) (gj_app lg_wsX90 (gj_app lg_wsX00 (gj_app lg_mwX0_docAt lg_mwX5_fits)))))
set_option maxRecDepth 20000 in
theorem lg_mwX9_gate : GoodIn lw_tbl mwX9_gate := (gj_cons ⟨List.mem_of_getElem? (i := 978) (by decide +kernel), good_of_word (by decide +kernel)⟩ (gj_app (goodIn_r _ [421, 423, 1, 106, 361, 889, 890, 891, 107, 368, 909, 910, 911, 114, 345, 979, 981, 30, 965, 662, 124, 844, 846, 24, 347] (by decide +kernel) (by decide +kernel)) (gj_app lg_wsX90 (gj_app lg_wsX80 (gj_app lg_mwX9_refuse (gj_app lg_mwX0_patternAt2 (gj_app lg_mwX8_through (gj_app lg_mwX9_fittingDocuments (gj_app lg_mwJ6_bitCount_0f7a4 lg_mwX9_answer)))))))))
set_option maxRecDepth 20000 in
theorem lg_mwX10_onesm : GoodIn lw_tbl mwX10_onesm := (gj_cons ⟨List.mem_of_getElem? (i := 1657) (by decide +kernel), good_of_word (by decide +kernel)⟩ (gj_app (goodIn_r _ [1358, 1359, 115] (by decide +kernel) (by decide +kernel)) lg_mwX10_hasm))
set_option maxRecDepth 20000 in
theorem lg_mwX10_gatem : GoodIn lw_tbl mwX10_gatem := (gj_cons ⟨List.mem_of_getElem? (i := 1654) (by decide +kernel), good_of_word (by decide +kernel)⟩ (gj_app (goodIn_r _ [1284, 1285, 115, 1623, 1625, 99, 1413, 1415, 58, 1574, 1576, 89, 1655, 1656, 1365, 1367, 50, 1166, 1287, 1289, 33] (by decide +kernel) (by decide +kernel)) (gj_app lg_wsX100 (gj_app lg_mwX10_isFromm (gj_app lg_mwX10_isPatternm (gj_app lg_mwX10_candidatesm (gj_app lg_mwX10_fittingm (gj_app lg_mwX10_onesm (gj_app lg_mwX10_givesm lg_mwX10_refusem)))))))))
set_option maxRecDepth 20000 in
theorem lg_mwX5_longestFrom : GoodIn lw_tbl mwX5_longestFrom := (gj_cons ⟨List.mem_of_getElem? (i := 994) (by decide +kernel), good_of_word (by decide +kernel)⟩ (gj_app (gj_app (goodIn_r _ [760, 764, 830, 904, 768, 901, 903, 27, 125, 765, 900, 766, 897, 899, 26] (by decide +kernel) (by decide +kernel)) lg_wsX50) lg_wsX20))
set_option maxRecDepth 20000 in
theorem lg_mwX5_firstMatchIn2 : GoodIn lw_tbl mwX5_firstMatchIn2 := (gj_cons ⟨List.mem_of_getElem? (i := 999) (by decide +kernel), good_of_word (by decide +kernel)⟩ (gj_app (goodIn_r _ [830, 991, 992, 993, 125] (by decide +kernel) (by decide +kernel)) (gj_app lg_wsX20 lg_mwX5_longestFrom)))
set_option maxRecDepth 20000 in
theorem lg_mwX5_matchesIn : GoodIn lw_tbl mwX5_matchesIn := (gj_cons ⟨List.mem_of_getElem? (i := 990) (by decide +kernel), good_of_word (by decide +kernel)⟩ (gj_app (gj_app (goodIn_r _ [830, 994, 760, 764, 904, 768, 901, 903, 27, 125, 765, 900, 766, 897, 899, 26, 991, 992, 993, 995, 244, 113, 245] (by decide +kernel) (by decide +kernel)) lg_wsX20) lg_wsX50))
set_option maxRecDepth 20000 in
theorem lg_mwX9_match : GoodIn lw_tbl mwX9_match := (gj_cons ⟨List.mem_of_getElem? (i := 986) (by decide +kernel), good_of_word (by decide +kernel)⟩ (gj_app (goodIn_r _ [421, 423, 1, 106, 361, 889, 890, 891, 107, 881, 882, 883, 996, 997, 998, 125, 1000, 992, 993, 844, 846, 24, 987, 988, 989] (by decide +kernel) (by decide +kernel)) (gj_app lg_wsX90 (gj_app lg_mwX9_refuse (gj_app lg_mwX0_patternAt2 (gj_app lg_mwX0_docAt (gj_app lg_mwX5_firstMatchIn2 (gj_app lg_mwX5_longestFrom (gj_app lg_mwX9_answer lg_mwX5_matchesIn)))))))))
set_option maxRecDepth 20000 in
theorem lg_mwX10_matchManym : GoodIn lw_tbl mwX10_matchManym := (gj_cons ⟨List.mem_of_getElem? (i := 1665) (by decide +kernel), good_of_word (by decide +kernel)⟩ (gj_app (goodIn_r _ [1385, 1387, 52, 115, 1603, 1605, 96, 1607, 1609, 97, 1532, 244, 113, 245] (by decide +kernel) (by decide +kernel)) (gj_app lg_mwX10_sizeOfm (gj_app lg_mwX10_firstMatchm lg_mwX10_longestm))))
set_option maxRecDepth 20000 in
theorem lg_mwX10_matchm : GoodIn lw_tbl mwX10_matchm := (gj_cons ⟨List.mem_of_getElem? (i := 1661) (by decide +kernel), good_of_word (by decide +kernel)⟩ (gj_app (goodIn_r _ [1284, 1285, 115, 1623, 1625, 99, 1287, 1289, 33, 1405, 1407, 56, 1578, 1580, 90, 1603, 1605, 96, 1607, 1609, 97, 1365, 1367, 50, 1662, 1664, 101] (by decide +kernel) (by decide +kernel)) (gj_app lg_mwX10_isFromm (gj_app lg_mwX10_isPatternm (gj_app lg_mwX10_refusem (gj_app lg_mwX10_isDocm (gj_app lg_mwX10_matchesm (gj_app lg_mwX10_firstMatchm (gj_app lg_mwX10_longestm (gj_app lg_mwX10_givesm lg_mwX10_matchManym))))))))))
set_option maxRecDepth 20000 in
theorem lg_mwX5_aliveBehind : GoodIn lw_tbl mwX5_aliveBehind := (gj_cons ⟨List.mem_of_getElem? (i := 1008) (by decide +kernel), good_of_word (by decide +kernel)⟩ (gj_app (gj_app (goodIn_r _ [830, 764, 900, 766, 897, 899, 26, 125, 904, 768, 901, 903, 27] (by decide +kernel) (by decide +kernel)) lg_wsX20) lg_wsX50))
set_option maxRecDepth 20000 in
theorem lg_mwX9_alive : GoodIn lw_tbl mwX9_alive := (gj_cons ⟨List.mem_of_getElem? (i := 1004) (by decide +kernel), good_of_word (by decide +kernel)⟩ (gj_app (goodIn_r _ [361, 889, 890, 891, 107, 881, 882, 883, 421, 423, 1, 106, 829, 1005, 1006, 1007, 125, 844, 846, 24] (by decide +kernel) (by decide +kernel)) (gj_app lg_wsX90 (gj_app lg_wsX20 (gj_app lg_mwX0_patternAt2 (gj_app lg_mwX0_docAt (gj_app lg_mwX9_refuse (gj_app lg_mwX5_aliveBehind lg_mwX9_answer))))))))
set_option maxRecDepth 20000 in
theorem lg_mwX10_alivem : GoodIn lw_tbl mwX10_alivem := (gj_cons ⟨List.mem_of_getElem? (i := 1669) (by decide +kernel), good_of_word (by decide +kernel)⟩ (gj_app (goodIn_r _ [1623, 1625, 99, 115, 1287, 1289, 33, 1405, 1407, 56, 1385, 1387, 52, 1578, 1580, 90, 1365, 1367, 50, 1397, 1399, 55, 1159, 1165, 1611, 1613, 98] (by decide +kernel) (by decide +kernel)) (gj_app lg_wsX100 (gj_app lg_mwX10_isPatternm (gj_app lg_mwX10_refusem (gj_app lg_mwX10_isDocm (gj_app lg_mwX10_sizeOfm (gj_app lg_mwX10_matchesm (gj_app lg_mwX10_givesm (gj_app lg_mwX10_atm lg_mwX10_goesOnm))))))))))
set_option maxRecDepth 20000 in
theorem lg_mwX9_rarest : GoodIn lw_tbl mwX9_rarest := (gj_cons ⟨List.mem_of_getElem? (i := 1012) (by decide +kernel), good_of_word (by decide +kernel)⟩ (gj_app (goodIn_r _ [361, 889, 890, 891, 107, 421, 423, 1, 106, 776, 844, 846, 24, 964, 869, 870, 965, 662, 124] (by decide +kernel) (by decide +kernel)) (gj_app lg_wsX90 (gj_app lg_wsX50 (gj_app lg_mwX0_patternAt2 (gj_app lg_mwX9_refuse (gj_app lg_mwX9_answer (gj_app lg_mwX0_listBits lg_mwJ6_bitCount_0f7a4))))))))
set_option maxRecDepth 20000 in
theorem lg_mwX10_rarestm : GoodIn lw_tbl mwX10_rarestm := (gj_cons ⟨List.mem_of_getElem? (i := 1673) (by decide +kernel), good_of_word (by decide +kernel)⟩ (gj_app (goodIn_r _ [1623, 1625, 99, 115, 1417, 1419, 59, 1627, 1629, 100, 1169, 1365, 1367, 50, 1566, 1568, 87, 1655, 1656, 1287, 1289, 33] (by decide +kernel) (by decide +kernel)) (gj_app lg_wsX100 (gj_app lg_mwX10_isPatternm (gj_app lg_mwX10_needsOfm (gj_app lg_mwX10_layTriplesm (gj_app lg_mwX10_givesm (gj_app lg_mwX10_listOfm (gj_app lg_mwX10_onesm lg_mwX10_refusem)))))))))
set_option maxRecDepth 20000 in
theorem lg_mwX5_hasChoiceWithin : GoodIn lw_tbl mwX5_hasChoiceWithin := (gj_cons ⟨List.mem_of_getElem? (i := 1020) (by decide +kernel), good_of_word (by decide +kernel)⟩ (gj_app (goodIn_r _ [916, 774, 1021, 914, 915, 125, 773, 600, 1022, 599, 112] (by decide +kernel) (by decide +kernel)) lg_wsX50))
set_option maxRecDepth 20000 in
theorem lg_mwX9_within : GoodIn lw_tbl mwX9_within := (gj_cons ⟨List.mem_of_getElem? (i := 1016) (by decide +kernel), good_of_word (by decide +kernel)⟩ (gj_app (goodIn_r _ [361, 889, 890, 891, 107, 421, 423, 1, 106, 940, 914, 915, 125, 844, 846, 24, 1017, 1018, 1019] (by decide +kernel) (by decide +kernel)) (gj_app lg_wsX90 (gj_app lg_mwX0_patternAt2 (gj_app lg_mwX9_refuse (gj_app lg_mwX5_choices (gj_app lg_mwX9_answer lg_mwX5_hasChoiceWithin)))))))
set_option maxRecDepth 20000 in
theorem lg_mwX10_hasAllm : GoodIn lw_tbl mwX10_hasAllm := (gj_cons ⟨List.mem_of_getElem? (i := 1510) (by decide +kernel), good_of_word (by decide +kernel)⟩ (fun w h => absurd h List.not_mem_nil))
set_option maxRecDepth 20000 in
theorem lg_mwX10_laysm : GoodIn lw_tbl mwX10_laysm := (gj_cons ⟨List.mem_of_getElem? (i := 1513) (by decide +kernel), good_of_word (by decide +kernel)⟩ (fun w h => absurd h List.not_mem_nil))
set_option maxRecDepth 20000 in
theorem lg_mwX10_withinm : GoodIn lw_tbl mwX10_withinm := (gj_cons ⟨List.mem_of_getElem? (i := 1677) (by decide +kernel), good_of_word (by decide +kernel)⟩ (gj_app (goodIn_r _ [1623, 1625, 99, 115, 1287, 1289, 33, 1417, 1419, 59, 1153, 1365, 1367, 50, 1151, 1170, 1508, 1509, 1511, 1512] (by decide +kernel) (by decide +kernel)) (gj_app lg_wsX100 (gj_app lg_mwX10_isPatternm (gj_app lg_mwX10_refusem (gj_app lg_mwX10_needsOfm (gj_app lg_mwX10_givesm (gj_app lg_mwX10_hasAllm lg_mwX10_laysm))))))))
set_option maxRecDepth 20000 in
theorem lg_mwX9_isLetter : GoodIn lw_tbl mwX9_isLetter := (gj_cons ⟨List.mem_of_getElem? (i := 1029) (by decide +kernel), good_of_word (by decide +kernel)⟩ (fun w h => absurd h List.not_mem_nil))
set_option maxRecDepth 20000 in
theorem lg_mwX0_withDoc : GoodIn lw_tbl mwX0_withDoc := (gj_cons ⟨List.mem_of_getElem? (i := 1036) (by decide +kernel), good_of_word (by decide +kernel)⟩ (gj_app (goodIn_r _ [145, 1037, 1038, 716, 717, 1039, 1041, 1042, 136, 107, 148, 1043, 142] (by decide +kernel) (by decide +kernel)) (gj_app lg_wsX00 lg_mwX0_init)))
set_option maxRecDepth 20000 in
theorem lg_mwX9_put : GoodIn lw_tbl mwX9_put := (gj_cons ⟨List.mem_of_getElem? (i := 1026) (by decide +kernel), good_of_word (by decide +kernel)⟩ (gj_app (goodIn_r _ [1027, 1028, 106, 421, 423, 1, 361, 881, 882, 883, 107, 829, 1030, 715, 716, 717, 718, 1031, 370, 1032, 811, 126, 1033, 1034, 1035, 839, 841, 23, 844, 846, 24] (by decide +kernel) (by decide +kernel)) (gj_app lg_wsX90 (gj_app lg_wsX20 (gj_app lg_mwX9_isLetter (gj_app lg_mwX9_refuse (gj_app lg_mwX0_docAt (gj_app lg_mwX2_made (gj_app lg_mwX0_withDoc (gj_app lg_mwX9_act lg_mwX9_answer))))))))))
set_option maxRecDepth 20000 in
theorem lg_mwX10_wrongPutm : GoodIn lw_tbl mwX10_wrongPutm := (gj_cons ⟨List.mem_of_getElem? (i := 1685) (by decide +kernel), good_of_word (by decide +kernel)⟩ (gj_app (goodIn_r _ [1284, 1285, 115, 1405, 1407, 56, 1385, 1387, 52] (by decide +kernel) (by decide +kernel)) (gj_app lg_mwX10_isFromm (gj_app lg_mwX10_isDocm lg_mwX10_sizeOfm))))
set_option maxRecDepth 20000 in
theorem lg_mwX10_setsm : GoodIn lw_tbl mwX10_setsm := (gj_cons ⟨List.mem_of_getElem? (i := 1689) (by decide +kernel), good_of_word (by decide +kernel)⟩ (gj_app (goodIn_r _ [1123] (by decide +kernel) (by decide +kernel)) lg_wsX100))
set_option maxRecDepth 20000 in
theorem lg_mwX10_acted_m : GoodIn lw_tbl mwX10_acted_m := (gj_cons ⟨List.mem_of_getElem? (i := 1693) (by decide +kernel), good_of_word (by decide +kernel)⟩ (gj_app (goodIn_r _ [1361, 1363, 49, 115, 1365, 1367, 50] (by decide +kernel) (by decide +kernel)) (gj_app lg_mwX10_actedm lg_mwX10_givesm)))
set_option maxRecDepth 20000 in
theorem lg_mwX10_putm : GoodIn lw_tbl mwX10_putm := (gj_cons ⟨List.mem_of_getElem? (i := 1681) (by decide +kernel), good_of_word (by decide +kernel)⟩ (gj_app (goodIn_r _ [1682, 1684, 102, 115, 1397, 1399, 55, 1295, 1297, 35, 1686, 1688, 103, 1690, 1692, 104, 1287, 1289, 33] (by decide +kernel) (by decide +kernel)) (gj_app lg_mwX10_wrongPutm (gj_app lg_mwX10_atm (gj_app lg_mwX10_copiesm (gj_app lg_mwX10_setsm (gj_app lg_mwX10_acted_m lg_mwX10_refusem)))))))
set_option maxRecDepth 20000 in
theorem lg_mwX9_let : GoodIn lw_tbl mwX9_let := (gj_cons ⟨List.mem_of_getElem? (i := 1047) (by decide +kernel), good_of_word (by decide +kernel)⟩ (gj_app (goodIn_r _ [1027, 1028, 106, 421, 423, 1, 361, 881, 882, 883, 107, 829, 159, 528, 530, 529, 120, 370, 1032, 811, 126, 1033, 1034, 1035, 839, 841, 23, 844, 846, 24] (by decide +kernel) (by decide +kernel)) (gj_app lg_wsX90 (gj_app lg_wsX20 (gj_app lg_mwX9_isLetter (gj_app lg_mwX9_refuse (gj_app lg_mwX0_docAt (gj_app lg_mwX2_made (gj_app lg_mwX0_withDoc (gj_app lg_mwX9_act lg_mwX9_answer))))))))))
set_option maxRecDepth 20000 in
theorem lg_mwX10_letm : GoodIn lw_tbl mwX10_letm := (gj_cons ⟨List.mem_of_getElem? (i := 1697) (by decide +kernel), good_of_word (by decide +kernel)⟩ (gj_app (goodIn_r _ [1287, 1289, 33, 115, 1284, 1285, 1405, 1407, 56, 1385, 1387, 52, 1295, 1297, 35, 1686, 1688, 103, 1123, 1690, 1692, 104, 1397, 1399, 55] (by decide +kernel) (by decide +kernel)) (gj_app lg_wsX100 (gj_app lg_mwX10_refusem (gj_app lg_mwX10_isFromm (gj_app lg_mwX10_isDocm (gj_app lg_mwX10_sizeOfm (gj_app lg_mwX10_copiesm (gj_app lg_mwX10_setsm (gj_app lg_mwX10_acted_m lg_mwX10_atm))))))))))
set_option maxRecDepth 20000 in
theorem lg_mwX9_cut : GoodIn lw_tbl mwX9_cut := (gj_cons ⟨List.mem_of_getElem? (i := 1051) (by decide +kernel), good_of_word (by decide +kernel)⟩ (gj_app (goodIn_r _ [421, 423, 1, 106, 361, 881, 882, 883, 107, 829, 159, 528, 530, 529, 120, 370, 1032, 811, 126, 1033, 1034, 1035, 839, 841, 23, 844, 846, 24] (by decide +kernel) (by decide +kernel)) (gj_app lg_wsX90 (gj_app lg_wsX20 (gj_app lg_mwX9_refuse (gj_app lg_mwX0_docAt (gj_app lg_mwX2_made (gj_app lg_mwX0_withDoc (gj_app lg_mwX9_act lg_mwX9_answer)))))))))
set_option maxRecDepth 20000 in
theorem lg_mwX10_cutm : GoodIn lw_tbl mwX10_cutm := (gj_cons ⟨List.mem_of_getElem? (i := 1701) (by decide +kernel), good_of_word (by decide +kernel)⟩ (gj_app (goodIn_r _ [1287, 1289, 33, 115, 1405, 1407, 56, 1385, 1387, 52, 1295, 1297, 35, 1123, 1690, 1692, 104, 1397, 1399, 55, 1686, 1688, 103] (by decide +kernel) (by decide +kernel)) (gj_app lg_wsX100 (gj_app lg_mwX10_refusem (gj_app lg_mwX10_isDocm (gj_app lg_mwX10_sizeOfm (gj_app lg_mwX10_copiesm (gj_app lg_mwX10_acted_m (gj_app lg_mwX10_atm lg_mwX10_setsm)))))))))
set_option maxRecDepth 20000 in
theorem lg_mwX0_withOneMore : GoodIn lw_tbl mwX0_withOneMore := (gj_cons ⟨List.mem_of_getElem? (i := 1060) (by decide +kernel), good_of_word (by decide +kernel)⟩ (gj_app (goodIn_r _ [145, 1061, 1062, 530, 529, 120, 1042, 136, 107, 148, 1043, 142] (by decide +kernel) (by decide +kernel)) (gj_app lg_wsX00 lg_mwX0_init)))
set_option maxRecDepth 20000 in
theorem lg_mwX9_copy : GoodIn lw_tbl mwX9_copy := (gj_cons ⟨List.mem_of_getElem? (i := 1055) (by decide +kernel), good_of_word (by decide +kernel)⟩ (gj_app (goodIn_r _ [421, 423, 1, 106, 361, 881, 882, 883, 107, 147, 829, 1056, 704, 121, 370, 1032, 811, 126, 1057, 1058, 1059, 839, 841, 23, 844, 846, 24] (by decide +kernel) (by decide +kernel)) (gj_app lg_wsX90 (gj_app lg_wsX00 (gj_app lg_wsX20 (gj_app lg_mwX9_refuse (gj_app lg_mwX0_docAt (gj_app lg_mwJ7_copyOfRange_feecc (gj_app lg_mwX2_made (gj_app lg_mwX0_withOneMore (gj_app lg_mwX9_act lg_mwX9_answer)))))))))))
set_option maxRecDepth 20000 in
theorem lg_mwX10_copym : GoodIn lw_tbl mwX10_copym := (gj_cons ⟨List.mem_of_getElem? (i := 1705) (by decide +kernel), good_of_word (by decide +kernel)⟩ (gj_app (goodIn_r _ [1287, 1289, 33, 115, 1405, 1407, 56, 1123, 1385, 1387, 52, 1295, 1297, 35, 1690, 1692, 104, 1397, 1399, 55, 1686, 1688, 103] (by decide +kernel) (by decide +kernel)) (gj_app lg_wsX100 (gj_app lg_mwX10_refusem (gj_app lg_mwX10_isDocm (gj_app lg_mwX10_sizeOfm (gj_app lg_mwX10_copiesm (gj_app lg_mwX10_acted_m (gj_app lg_mwX10_atm lg_mwX10_setsm)))))))))
set_option maxRecDepth 20000 in
theorem lg_mwX0_withoutDoc : GoodIn lw_tbl mwX0_withoutDoc := (gj_cons ⟨List.mem_of_getElem? (i := 1070) (by decide +kernel), good_of_word (by decide +kernel)⟩ (gj_app (goodIn_r _ [145, 1061, 1062, 530, 529, 120, 1042, 136, 107, 148, 1043, 142] (by decide +kernel) (by decide +kernel)) (gj_app lg_wsX00 lg_mwX0_init)))
set_option maxRecDepth 20000 in
theorem lg_mwX9_drop : GoodIn lw_tbl mwX9_drop := (gj_cons ⟨List.mem_of_getElem? (i := 1066) (by decide +kernel), good_of_word (by decide +kernel)⟩ (gj_app (goodIn_r _ [361, 881, 882, 883, 107, 421, 423, 1, 106, 1067, 1068, 1069, 839, 841, 23, 147, 844, 846, 24] (by decide +kernel) (by decide +kernel)) (gj_app lg_wsX90 (gj_app lg_wsX00 (gj_app lg_mwX0_docAt (gj_app lg_mwX9_refuse (gj_app lg_mwX0_withoutDoc (gj_app lg_mwX9_act lg_mwX9_answer))))))))
set_option maxRecDepth 20000 in
theorem lg_mwX10_dropm : GoodIn lw_tbl mwX10_dropm := (gj_cons ⟨List.mem_of_getElem? (i := 1709) (by decide +kernel), good_of_word (by decide +kernel)⟩ (gj_app (goodIn_r _ [1405, 1407, 56, 115, 1295, 1297, 35, 1123, 1690, 1692, 104, 1385, 1387, 52, 1397, 1399, 55, 1686, 1688, 103, 1287, 1289, 33] (by decide +kernel) (by decide +kernel)) (gj_app lg_wsX100 (gj_app lg_mwX10_isDocm (gj_app lg_mwX10_copiesm (gj_app lg_mwX10_acted_m (gj_app lg_mwX10_sizeOfm (gj_app lg_mwX10_atm (gj_app lg_mwX10_setsm lg_mwX10_refusem)))))))))
set_option maxRecDepth 20000 in
theorem lg_mwX0_withoutPattern : GoodIn lw_tbl mwX0_withoutPattern := (gj_cons ⟨List.mem_of_getElem? (i := 1078) (by decide +kernel), good_of_word (by decide +kernel)⟩ (gj_app (goodIn_r _ [148, 1079, 1062, 530, 529, 120, 1042, 136, 107, 145, 1043, 142] (by decide +kernel) (by decide +kernel)) (gj_app lg_wsX00 lg_mwX0_init)))
set_option maxRecDepth 20000 in
theorem lg_mwX9_forget : GoodIn lw_tbl mwX9_forget := (gj_cons ⟨List.mem_of_getElem? (i := 1074) (by decide +kernel), good_of_word (by decide +kernel)⟩ (gj_app (goodIn_r _ [361, 889, 890, 891, 107, 421, 423, 1, 106, 1075, 1076, 1077, 839, 841, 23, 149, 844, 846, 24] (by decide +kernel) (by decide +kernel)) (gj_app lg_wsX90 (gj_app lg_wsX00 (gj_app lg_mwX0_patternAt2 (gj_app lg_mwX9_refuse (gj_app lg_mwX0_withoutPattern (gj_app lg_mwX9_act lg_mwX9_answer))))))))
set_option maxRecDepth 20000 in
theorem lg_mwX10_forgetm : GoodIn lw_tbl mwX10_forgetm := (gj_cons ⟨List.mem_of_getElem? (i := 1713) (by decide +kernel), good_of_word (by decide +kernel)⟩ (gj_app (goodIn_r _ [1623, 1625, 99, 115, 1295, 1297, 35, 1123, 1690, 1692, 104, 1287, 1289, 33] (by decide +kernel) (by decide +kernel)) (gj_app lg_wsX100 (gj_app lg_mwX10_isPatternm (gj_app lg_mwX10_copiesm (gj_app lg_mwX10_acted_m lg_mwX10_refusem))))))
set_option maxRecDepth 20000 in
theorem lg_mwX9_undo : GoodIn lw_tbl mwX9_undo := (gj_cons ⟨List.mem_of_getElem? (i := 1083) (by decide +kernel), good_of_word (by decide +kernel)⟩ (gj_app (goodIn_r _ [361, 151, 362, 421, 423, 1, 106, 844, 846, 24] (by decide +kernel) (by decide +kernel)) (gj_app lg_wsX90 (gj_app lg_wsX00 (gj_app lg_mwX9_refuse lg_mwX9_answer)))))
set_option maxRecDepth 20000 in
theorem lg_mwX10_undom : GoodIn lw_tbl mwX10_undom := (gj_cons ⟨List.mem_of_getElem? (i := 1717) (by decide +kernel), good_of_word (by decide +kernel)⟩ (gj_app (goodIn_r _ [1125, 1295, 1297, 35, 115, 1365, 1367, 50, 1287, 1289, 33] (by decide +kernel) (by decide +kernel)) (gj_app lg_wsX100 (gj_app lg_mwX10_copiesm (gj_app lg_mwX10_givesm lg_mwX10_refusem)))))
set_option maxRecDepth 20000 in
theorem lg_mwX9_mark : GoodIn lw_tbl mwX9_mark := (gj_cons ⟨List.mem_of_getElem? (i := 1087) (by decide +kernel), good_of_word (by decide +kernel)⟩ (gj_app (goodIn_r _ [365, 363, 361, 364, 362, 844, 846, 24, 106, 421, 423, 1] (by decide +kernel) (by decide +kernel)) (gj_app lg_wsX90 (gj_app lg_mwX9_answer lg_mwX9_refuse))))
set_option maxRecDepth 20000 in
theorem lg_mwX10_markm : GoodIn lw_tbl mwX10_markm := (gj_cons ⟨List.mem_of_getElem? (i := 1721) (by decide +kernel), good_of_word (by decide +kernel)⟩ (gj_app (goodIn_r _ [1126, 1722, 1295, 1297, 35, 115, 1365, 1367, 50, 1287, 1289, 33] (by decide +kernel) (by decide +kernel)) (gj_app lg_wsX100 (gj_app lg_mwX10_copiesm (gj_app lg_mwX10_givesm lg_mwX10_refusem)))))
set_option maxRecDepth 20000 in
theorem lg_mwX9_back : GoodIn lw_tbl mwX9_back := (gj_cons ⟨List.mem_of_getElem? (i := 1091) (by decide +kernel), good_of_word (by decide +kernel)⟩ (gj_app (goodIn_r _ [365, 421, 423, 1, 106, 363, 361, 364, 362, 844, 846, 24] (by decide +kernel) (by decide +kernel)) (gj_app lg_wsX90 (gj_app lg_mwX9_refuse lg_mwX9_answer))))
set_option maxRecDepth 20000 in
theorem lg_mwX10_backm : GoodIn lw_tbl mwX10_backm := (gj_cons ⟨List.mem_of_getElem? (i := 1726) (by decide +kernel), good_of_word (by decide +kernel)⟩ (gj_app (goodIn_r _ [1126, 1722, 1295, 1297, 35, 115, 1365, 1367, 50, 1287, 1289, 33] (by decide +kernel) (by decide +kernel)) (gj_app lg_wsX100 (gj_app lg_mwX10_copiesm (gj_app lg_mwX10_givesm lg_mwX10_refusem)))))
set_option maxRecDepth 20000 in
theorem lg_mwX9_would : GoodIn lw_tbl mwX9_would := (gj_cons ⟨List.mem_of_getElem? (i := 1095) (by decide +kernel), good_of_word (by decide +kernel)⟩ (gj_app (goodIn_r _ [1027, 1028, 106, 421, 423, 1, 361, 881, 882, 883, 107, 829, 369, 528, 530, 529, 120, 370, 1096, 814, 126, 833, 844, 846, 24] (by decide +kernel) (by decide +kernel)) (gj_app lg_wsX90 (gj_app lg_wsX20 (gj_app lg_mwX9_isLetter (gj_app lg_mwX9_refuse (gj_app lg_mwX0_docAt (gj_app lg_mwX2_sortTriples lg_mwX9_answer))))))))
set_option maxRecDepth 20000 in
theorem lg_mwX10_wouldm : GoodIn lw_tbl mwX10_wouldm := (gj_cons ⟨List.mem_of_getElem? (i := 1730) (by decide +kernel), good_of_word (by decide +kernel)⟩ (gj_app (goodIn_r _ [1682, 1684, 102, 115, 1397, 1399, 55, 1389, 1391, 53, 1686, 1688, 103, 1365, 1367, 50, 1287, 1289, 33] (by decide +kernel) (by decide +kernel)) (gj_app lg_mwX10_wrongPutm (gj_app lg_mwX10_atm (gj_app lg_mwX10_unlikem (gj_app lg_mwX10_setsm (gj_app lg_mwX10_givesm lg_mwX10_refusem)))))))
set_option maxRecDepth 20000 in
theorem lg_mwX5_tallyLetters : GoodIn lw_tbl mwX5_tallyLetters := (gj_cons ⟨List.mem_of_getElem? (i := 1105) (by decide +kernel), good_of_word (by decide +kernel)⟩ (gj_app (gj_app (goodIn_r _ [760, 765, 830, 764, 900, 766, 897, 899, 26, 125, 904, 768, 901, 903, 27, 1109, 1106, 1108, 31] (by decide +kernel) (by decide +kernel)) lg_wsX50) lg_wsX20))
set_option maxRecDepth 20000 in
theorem lg_mwX9_best : GoodIn lw_tbl mwX9_best := (gj_cons ⟨List.mem_of_getElem? (i := 1100) (by decide +kernel), good_of_word (by decide +kernel)⟩ (gj_app (goodIn_r _ [361, 881, 882, 883, 107, 421, 423, 1, 106, 829, 371, 1101, 536, 121, 149, 844, 846, 24, 889, 890, 891, 1102, 1103, 1104, 125] (by decide +kernel) (by decide +kernel)) (gj_app lg_wsX90 (gj_app lg_wsX20 (gj_app lg_wsX00 (gj_app lg_mwX0_docAt (gj_app lg_mwX9_refuse (gj_app lg_mwJ7_fill_53178 (gj_app lg_mwX9_answer (gj_app lg_mwX0_patternAt2 lg_mwX5_tallyLetters))))))))))
set_option maxRecDepth 20000 in
theorem lg_mwX10_bestm : GoodIn lw_tbl mwX10_bestm := (gj_cons ⟨List.mem_of_getElem? (i := 1734) (by decide +kernel), good_of_word (by decide +kernel)⟩ (gj_app (goodIn_r _ [1682, 1684, 102, 115, 1397, 1399, 55, 1686, 1688, 103, 1365, 1367, 50, 1409, 1411, 57, 1655, 1656, 1287, 1289, 33] (by decide +kernel) (by decide +kernel)) (gj_app lg_mwX10_wrongPutm (gj_app lg_mwX10_atm (gj_app lg_mwX10_setsm (gj_app lg_mwX10_givesm (gj_app lg_mwX10_patternsOfm (gj_app lg_mwX10_onesm lg_mwX10_refusem))))))))
set_option maxRecDepth 20000 in
theorem lg_mwX0_init0 : GoodIn lw_tbl mwX0_init0 := (gj_cons ⟨List.mem_of_getElem? (i := 143) (by decide +kernel), good_of_word (by decide +kernel)⟩ (gj_app (goodIn_r _ [144, 133, 134, 145, 148, 150] (by decide +kernel) (by decide +kernel)) lg_wsX00))
set_option maxRecDepth 20000 in
theorem lg_mwX6_init : GoodIn lw_tbl mwX6_init := (gj_cons ⟨List.mem_of_getElem? (i := 165) (by decide +kernel), good_of_word (by decide +kernel)⟩ (gj_app (goodIn_r _ [166, 133, 134, 159, 177, 179, 209, 181] (by decide +kernel) (by decide +kernel)) lg_wsX60))
set_option maxRecDepth 20000 in
theorem lg_mwX7_init : GoodIn lw_tbl mwX7_init := (gj_cons ⟨List.mem_of_getElem? (i := 227) (by decide +kernel), good_of_word (by decide +kernel)⟩ (gj_app (goodIn_r _ [228, 133, 134, 236, 229] (by decide +kernel) (by decide +kernel)) lg_wsX70))
set_option maxRecDepth 20000 in
theorem lg_mwX3_initn12 : GoodIn lw_tbl mwX3_initn12 := (gj_cons ⟨List.mem_of_getElem? (i := 241) (by decide +kernel), good_of_word (by decide +kernel)⟩ (gj_app (goodIn_r _ [242, 133, 134, 243, 244, 113, 245, 246, 159, 247, 248] (by decide +kernel) (by decide +kernel)) lg_wsX30))
set_option maxRecDepth 20000 in
theorem lg_mwX4_init : GoodIn lw_tbl mwX4_init := (gj_cons ⟨List.mem_of_getElem? (i := 221) (by decide +kernel), good_of_word (by decide +kernel)⟩ (gj_app (goodIn_r _ [222, 133, 134, 223, 224, 111, 226, 259, 237, 238, 112, 239, 240, 262] (by decide +kernel) (by decide +kernel)) (gj_app lg_wsX70 (gj_app lg_wsX40 (gj_app lg_wsX30 (gj_app lg_mwX7_init lg_mwX3_initn12))))))
set_option maxRecDepth 20000 in
theorem lg_mwX3_initn6 : GoodIn lw_tbl mwX3_initn6 := (gj_cons ⟨List.mem_of_getElem? (i := 241) (by decide +kernel), good_of_word (by decide +kernel)⟩ (gj_app (goodIn_r _ [242, 133, 134, 243, 244, 113, 245, 246, 159, 247, 248] (by decide +kernel) (by decide +kernel)) lg_wsX30))
set_option maxRecDepth 20000 in
theorem lg_mwX3_initn144 : GoodIn lw_tbl mwX3_initn144 := (gj_cons ⟨List.mem_of_getElem? (i := 241) (by decide +kernel), good_of_word (by decide +kernel)⟩ (gj_app (goodIn_r _ [242, 133, 134, 243, 244, 113, 245, 246, 159, 247, 248] (by decide +kernel) (by decide +kernel)) lg_wsX30))
set_option maxRecDepth 20000 in
theorem lg_mwX1_init : GoodIn lw_tbl mwX1_init := (gj_cons ⟨List.mem_of_getElem? (i := 214) (by decide +kernel), good_of_word (by decide +kernel)⟩ (gj_app (goodIn_r _ [215, 133, 134, 216, 304, 305, 209, 306, 218, 110, 220, 307, 300, 224, 111, 226, 308, 302, 238, 112, 303, 240, 309, 310, 159, 311, 312, 313] (by decide +kernel) (by decide +kernel)) (gj_app lg_wsX10 (gj_app lg_wsX40 (gj_app lg_wsX70 (gj_app lg_wsX30 (gj_app lg_mwX4_init (gj_app lg_mwX7_init (gj_app lg_mwX3_initn6 lg_mwX3_initn144)))))))))
set_option maxRecDepth 20000 in
theorem lg_mwX8_init : GoodIn lw_tbl mwX8_init := (gj_cons ⟨List.mem_of_getElem? (i := 342) (by decide +kernel), good_of_word (by decide +kernel)⟩ (gj_app (goodIn_r _ [343, 133, 134, 159, 348] (by decide +kernel) (by decide +kernel)) lg_wsX80))
set_option maxRecDepth 20000 in
theorem lg_mwX9_init : GoodIn lw_tbl mwX9_init := (gj_cons ⟨List.mem_of_getElem? (i := 131) (by decide +kernel), good_of_word (by decide +kernel)⟩ (gj_app (goodIn_r _ [132, 133, 134, 159, 357, 359, 360, 135, 136, 107, 137, 139, 141, 142, 361, 363, 364, 161, 162, 108, 164, 366, 210, 211, 109, 212, 213, 367, 338, 339, 114, 341, 368, 369, 370, 371] (by decide +kernel) (by decide +kernel)) (gj_app lg_wsX90 (gj_app lg_wsX00 (gj_app lg_wsX60 (gj_app lg_wsX10 (gj_app lg_wsX80 (gj_app lg_mwX0_init0 (gj_app lg_mwX6_init (gj_app lg_mwX1_init lg_mwX8_init))))))))))
set_option maxRecDepth 20000 in
theorem mg_L_X9_status : GoodIn lw_tbl (wsV RL 13 RX9 yX9_status mwX9_status) := gj_app (A := [.methodLink RL 13 yX9_status, .instanceMethod yX9_status, .selects RX9 yX9_status yX9_status, .initialized RX9]) (goodIn_r _ [405, 406, 407, 106] (by decide +kernel) (by decide +kernel)) lg_mwX9_status
set_option maxRecDepth 20000 in
theorem mg_L_X10_status : GoodIn lw_tbl (wsV RL 17 RX10 yX10_status mwX10_statusm) := gj_app (A := [.methodLink RL 17 yX10_status, .instanceMethod yX10_status, .selects RX10 yX10_status yX10_status, .initialized RX10]) (goodIn_r _ [1268, 1269, 1270, 115] (by decide +kernel) (by decide +kernel)) lg_mwX10_statusm
set_option maxRecDepth 20000 in
theorem mg_L_X9_feed : GoodIn lw_tbl (wsV RL 18 RX9 yX9_feed mwX9_feedq) := gj_app (A := [.methodLink RL 18 yX9_feed, .instanceMethod yX9_feed, .selects RX9 yX9_feed yX9_feed, .initialized RX9]) (goodIn_r _ [409, 410, 411, 106] (by decide +kernel) (by decide +kernel)) lg_mwX9_feedq
set_option maxRecDepth 20000 in
theorem mg_L_X10_feed : GoodIn lw_tbl (wsV RL 22 RX10 yX10_feed mwX10_feedmq) := gj_app (A := [.methodLink RL 22 yX10_feed, .instanceMethod yX10_feed, .selects RX10 yX10_feed yX10_feed, .initialized RX10]) (goodIn_r _ [1272, 1273, 1274, 115] (by decide +kernel) (by decide +kernel)) lg_mwX10_feedmq
set_option maxRecDepth 20000 in
theorem mg_L_X9_load : GoodIn lw_tbl (wsV RL 23 RX9 yX9_load mwX9_loadq) := gj_app (A := [.methodLink RL 23 yX9_load, .instanceMethod yX9_load, .selects RX9 yX9_load yX9_load, .initialized RX9]) (goodIn_r _ [417, 418, 419, 106] (by decide +kernel) (by decide +kernel)) lg_mwX9_loadq
set_option maxRecDepth 20000 in
theorem mg_L_X10_load : GoodIn lw_tbl (wsV RL 27 RX10 yX10_load mwX10_loadmq) := gj_app (A := [.methodLink RL 27 yX10_load, .instanceMethod yX10_load, .selects RX10 yX10_load yX10_load, .initialized RX10]) (goodIn_r _ [1280, 1281, 1282, 115] (by decide +kernel) (by decide +kernel)) lg_mwX10_loadmq
set_option maxRecDepth 20000 in
theorem mg_L_X9_more : GoodIn lw_tbl (wsV RL 28 RX9 yX9_more mwX9_more) := gj_app (A := [.methodLink RL 28 yX9_more, .instanceMethod yX9_more, .selects RX9 yX9_more yX9_more, .initialized RX9]) (goodIn_r _ [848, 849, 850, 106] (by decide +kernel) (by decide +kernel)) lg_mwX9_more
set_option maxRecDepth 20000 in
theorem mg_L_X10_more : GoodIn lw_tbl (wsV RL 31 RX10 yX10_more mwX10_morem) := gj_app (A := [.methodLink RL 31 yX10_more, .instanceMethod yX10_more, .selects RX10 yX10_more yX10_more, .initialized RX10]) (goodIn_r _ [1369, 1370, 1371, 115] (by decide +kernel) (by decide +kernel)) lg_mwX10_morem
set_option maxRecDepth 20000 in
theorem mg_L_X9_fault : GoodIn lw_tbl (wsV RL 32 RX9 yX9_fault mwX9_fault) := gj_app (A := [.methodLink RL 32 yX9_fault, .instanceMethod yX9_fault, .selects RX9 yX9_fault yX9_fault, .initialized RX9]) (goodIn_r _ [852, 853, 854, 106] (by decide +kernel) (by decide +kernel)) lg_mwX9_fault
set_option maxRecDepth 20000 in
theorem mg_L_X10_fault : GoodIn lw_tbl (wsV RL 35 RX10 yX10_fault mwX10_faultm) := gj_app (A := [.methodLink RL 35 yX10_fault, .instanceMethod yX10_fault, .selects RX10 yX10_fault yX10_fault, .initialized RX10]) (goodIn_r _ [1373, 1374, 1375, 115] (by decide +kernel) (by decide +kernel)) lg_mwX10_faultm
set_option maxRecDepth 20000 in
theorem mg_L_X9_many : GoodIn lw_tbl (wsV RL 36 RX9 yX9_many mwX9_many) := gj_app (A := [.methodLink RL 36 yX9_many, .instanceMethod yX9_many, .selects RX9 yX9_many yX9_many, .initialized RX9]) (goodIn_r _ [856, 857, 858, 106] (by decide +kernel) (by decide +kernel)) lg_mwX9_many
set_option maxRecDepth 20000 in
theorem mg_L_X10_many : GoodIn lw_tbl (wsV RL 39 RX10 yX10_many mwX10_manym) := gj_app (A := [.methodLink RL 39 yX10_many, .instanceMethod yX10_many, .selects RX10 yX10_many yX10_many, .initialized RX10]) (goodIn_r _ [1377, 1378, 1379, 115] (by decide +kernel) (by decide +kernel)) lg_mwX10_manym
set_option maxRecDepth 20000 in
theorem mg_L_X9_document : GoodIn lw_tbl (wsV RL 40 RX9 yX9_document mwX9_document) := gj_app (A := [.methodLink RL 40 yX9_document, .instanceMethod yX9_document, .selects RX9 yX9_document yX9_document, .initialized RX9]) (goodIn_r _ [877, 878, 879, 106] (by decide +kernel) (by decide +kernel)) lg_mwX9_document
set_option maxRecDepth 20000 in
theorem mg_L_X10_document : GoodIn lw_tbl (wsV RL 44 RX10 yX10_document mwX10_documentm) := gj_app (A := [.methodLink RL 44 yX10_document, .instanceMethod yX10_document, .selects RX10 yX10_document yX10_document, .initialized RX10]) (goodIn_r _ [1401, 1402, 1403, 115] (by decide +kernel) (by decide +kernel)) lg_mwX10_documentm
set_option maxRecDepth 20000 in
theorem mg_L_X9_letter : GoodIn lw_tbl (wsV RL 45 RX9 yX9_letter mwX9_letter) := gj_app (A := [.methodLink RL 45 yX9_letter, .instanceMethod yX9_letter, .selects RX9 yX9_letter yX9_letter, .initialized RX9]) (goodIn_r _ [932, 933, 934, 106] (by decide +kernel) (by decide +kernel)) lg_mwX9_letter
set_option maxRecDepth 20000 in
theorem mg_L_X10_letter : GoodIn lw_tbl (wsV RL 48 RX10 yX10_letter mwX10_letterm) := gj_app (A := [.methodLink RL 48 yX10_letter, .instanceMethod yX10_letter, .selects RX10 yX10_letter yX10_letter, .initialized RX10]) (goodIn_r _ [1615, 1616, 1617, 115] (by decide +kernel) (by decide +kernel)) lg_mwX10_letterm
set_option maxRecDepth 20000 in
theorem mg_L_X9_pattern : GoodIn lw_tbl (wsV RL 49 RX9 yX9_pattern mwX9_pattern) := gj_app (A := [.methodLink RL 49 yX9_pattern, .instanceMethod yX9_pattern, .selects RX9 yX9_pattern yX9_pattern, .initialized RX9]) (goodIn_r _ [936, 937, 938, 106] (by decide +kernel) (by decide +kernel)) lg_mwX9_pattern
set_option maxRecDepth 20000 in
theorem mg_L_X10_pattern : GoodIn lw_tbl (wsV RL 52 RX10 yX10_pattern mwX10_patternm) := gj_app (A := [.methodLink RL 52 yX10_pattern, .instanceMethod yX10_pattern, .selects RX10 yX10_pattern yX10_pattern, .initialized RX10]) (goodIn_r _ [1619, 1620, 1621, 115] (by decide +kernel) (by decide +kernel)) lg_mwX10_patternm
set_option maxRecDepth 20000 in
theorem mg_L_X9_sign : GoodIn lw_tbl (wsV RL 53 RX9 yX9_sign mwX9_sign) := gj_app (A := [.methodLink RL 53 yX9_sign, .instanceMethod yX9_sign, .selects RX9 yX9_sign yX9_sign, .initialized RX9]) (goodIn_r _ [941, 942, 943, 106] (by decide +kernel) (by decide +kernel)) lg_mwX9_sign
set_option maxRecDepth 20000 in
theorem mg_L_X10_sign : GoodIn lw_tbl (wsV RL 56 RX10 yX10_sign mwX10_signm) := gj_app (A := [.methodLink RL 56 yX10_sign, .instanceMethod yX10_sign, .selects RX10 yX10_sign yX10_sign, .initialized RX10]) (goodIn_r _ [1631, 1632, 1633, 115] (by decide +kernel) (by decide +kernel)) lg_mwX10_signm
set_option maxRecDepth 20000 in
theorem mg_L_X9_exact : GoodIn lw_tbl (wsV RL 57 RX9 yX9_exact mwX9_exact) := gj_app (A := [.methodLink RL 57 yX9_exact, .instanceMethod yX9_exact, .selects RX9 yX9_exact yX9_exact, .initialized RX9]) (goodIn_r _ [945, 946, 947, 106] (by decide +kernel) (by decide +kernel)) lg_mwX9_exact
set_option maxRecDepth 20000 in
theorem mg_L_X10_exact : GoodIn lw_tbl (wsV RL 61 RX10 yX10_exact mwX10_exactm) := gj_app (A := [.methodLink RL 61 yX10_exact, .instanceMethod yX10_exact, .selects RX10 yX10_exact yX10_exact, .initialized RX10]) (goodIn_r _ [1635, 1636, 1637, 115] (by decide +kernel) (by decide +kernel)) lg_mwX10_exactm
set_option maxRecDepth 20000 in
theorem mg_L_X9_need : GoodIn lw_tbl (wsV RL 62 RX9 yX9_need mwX9_need) := gj_app (A := [.methodLink RL 62 yX9_need, .instanceMethod yX9_need, .selects RX9 yX9_need yX9_need, .initialized RX9]) (goodIn_r _ [951, 952, 953, 106] (by decide +kernel) (by decide +kernel)) lg_mwX9_need
set_option maxRecDepth 20000 in
theorem mg_L_X10_need : GoodIn lw_tbl (wsV RL 65 RX10 yX10_need mwX10_needm) := gj_app (A := [.methodLink RL 65 yX10_need, .instanceMethod yX10_need, .selects RX10 yX10_need yX10_need, .initialized RX10]) (goodIn_r _ [1639, 1640, 1641, 115] (by decide +kernel) (by decide +kernel)) lg_mwX10_needm
set_option maxRecDepth 20000 in
theorem mg_L_X9_list : GoodIn lw_tbl (wsV RL 66 RX9 yX9_list mwX9_list) := gj_app (A := [.methodLink RL 66 yX9_list, .instanceMethod yX9_list, .selects RX9 yX9_list yX9_list, .initialized RX9]) (goodIn_r _ [957, 958, 959, 106] (by decide +kernel) (by decide +kernel)) lg_mwX9_list
set_option maxRecDepth 20000 in
theorem mg_L_X10_list : GoodIn lw_tbl (wsV RL 69 RX10 yX10_list mwX10_listm) := gj_app (A := [.methodLink RL 69 yX10_list, .instanceMethod yX10_list, .selects RX10 yX10_list yX10_list, .initialized RX10]) (goodIn_r _ [1643, 1644, 1645, 115] (by decide +kernel) (by decide +kernel)) lg_mwX10_listm
set_option maxRecDepth 20000 in
theorem mg_L_X9_often : GoodIn lw_tbl (wsV RL 70 RX9 yX9_often mwX9_often) := gj_app (A := [.methodLink RL 70 yX9_often, .instanceMethod yX9_often, .selects RX9 yX9_often yX9_often, .initialized RX9]) (goodIn_r _ [967, 968, 969, 106] (by decide +kernel) (by decide +kernel)) lg_mwX9_often
set_option maxRecDepth 20000 in
theorem mg_L_X10_often : GoodIn lw_tbl (wsV RL 73 RX10 yX10_often mwX10_oftenm) := gj_app (A := [.methodLink RL 73 yX10_often, .instanceMethod yX10_often, .selects RX10 yX10_often yX10_often, .initialized RX10]) (goodIn_r _ [1647, 1648, 1649, 115] (by decide +kernel) (by decide +kernel)) lg_mwX10_oftenm
set_option maxRecDepth 20000 in
theorem mg_L_X9_gate : GoodIn lw_tbl (wsV RL 74 RX9 yX9_gate mwX9_gate) := gj_app (A := [.methodLink RL 74 yX9_gate, .instanceMethod yX9_gate, .selects RX9 yX9_gate yX9_gate, .initialized RX9]) (goodIn_r _ [975, 976, 977, 106] (by decide +kernel) (by decide +kernel)) lg_mwX9_gate
set_option maxRecDepth 20000 in
theorem mg_L_X10_gate : GoodIn lw_tbl (wsV RL 77 RX10 yX10_gate mwX10_gatem) := gj_app (A := [.methodLink RL 77 yX10_gate, .instanceMethod yX10_gate, .selects RX10 yX10_gate yX10_gate, .initialized RX10]) (goodIn_r _ [1651, 1652, 1653, 115] (by decide +kernel) (by decide +kernel)) lg_mwX10_gatem
set_option maxRecDepth 20000 in
theorem mg_L_X9_match : GoodIn lw_tbl (wsV RL 78 RX9 yX9_match mwX9_match) := gj_app (A := [.methodLink RL 78 yX9_match, .instanceMethod yX9_match, .selects RX9 yX9_match yX9_match, .initialized RX9]) (goodIn_r _ [983, 984, 985, 106] (by decide +kernel) (by decide +kernel)) lg_mwX9_match
set_option maxRecDepth 20000 in
theorem mg_L_X10_match : GoodIn lw_tbl (wsV RL 81 RX10 yX10_match mwX10_matchm) := gj_app (A := [.methodLink RL 81 yX10_match, .instanceMethod yX10_match, .selects RX10 yX10_match yX10_match, .initialized RX10]) (goodIn_r _ [1658, 1659, 1660, 115] (by decide +kernel) (by decide +kernel)) lg_mwX10_matchm
set_option maxRecDepth 20000 in
theorem mg_L_X9_alive : GoodIn lw_tbl (wsV RL 82 RX9 yX9_alive mwX9_alive) := gj_app (A := [.methodLink RL 82 yX9_alive, .instanceMethod yX9_alive, .selects RX9 yX9_alive yX9_alive, .initialized RX9]) (goodIn_r _ [1001, 1002, 1003, 106] (by decide +kernel) (by decide +kernel)) lg_mwX9_alive
set_option maxRecDepth 20000 in
theorem mg_L_X10_alive : GoodIn lw_tbl (wsV RL 85 RX10 yX10_alive mwX10_alivem) := gj_app (A := [.methodLink RL 85 yX10_alive, .instanceMethod yX10_alive, .selects RX10 yX10_alive yX10_alive, .initialized RX10]) (goodIn_r _ [1666, 1667, 1668, 115] (by decide +kernel) (by decide +kernel)) lg_mwX10_alivem
set_option maxRecDepth 20000 in
theorem mg_L_X9_rarest : GoodIn lw_tbl (wsV RL 86 RX9 yX9_rarest mwX9_rarest) := gj_app (A := [.methodLink RL 86 yX9_rarest, .instanceMethod yX9_rarest, .selects RX9 yX9_rarest yX9_rarest, .initialized RX9]) (goodIn_r _ [1009, 1010, 1011, 106] (by decide +kernel) (by decide +kernel)) lg_mwX9_rarest
set_option maxRecDepth 20000 in
theorem mg_L_X10_rarest : GoodIn lw_tbl (wsV RL 89 RX10 yX10_rarest mwX10_rarestm) := gj_app (A := [.methodLink RL 89 yX10_rarest, .instanceMethod yX10_rarest, .selects RX10 yX10_rarest yX10_rarest, .initialized RX10]) (goodIn_r _ [1670, 1671, 1672, 115] (by decide +kernel) (by decide +kernel)) lg_mwX10_rarestm
set_option maxRecDepth 20000 in
theorem mg_L_X9_within : GoodIn lw_tbl (wsV RL 90 RX9 yX9_within mwX9_within) := gj_app (A := [.methodLink RL 90 yX9_within, .instanceMethod yX9_within, .selects RX9 yX9_within yX9_within, .initialized RX9]) (goodIn_r _ [1013, 1014, 1015, 106] (by decide +kernel) (by decide +kernel)) lg_mwX9_within
set_option maxRecDepth 20000 in
theorem mg_L_X10_within : GoodIn lw_tbl (wsV RL 93 RX10 yX10_within mwX10_withinm) := gj_app (A := [.methodLink RL 93 yX10_within, .instanceMethod yX10_within, .selects RX10 yX10_within yX10_within, .initialized RX10]) (goodIn_r _ [1674, 1675, 1676, 115] (by decide +kernel) (by decide +kernel)) lg_mwX10_withinm
set_option maxRecDepth 20000 in
theorem mg_L_X9_put : GoodIn lw_tbl (wsV RL 94 RX9 yX9_put mwX9_put) := gj_app (A := [.methodLink RL 94 yX9_put, .instanceMethod yX9_put, .selects RX9 yX9_put yX9_put, .initialized RX9]) (goodIn_r _ [1023, 1024, 1025, 106] (by decide +kernel) (by decide +kernel)) lg_mwX9_put
set_option maxRecDepth 20000 in
theorem mg_L_X10_put : GoodIn lw_tbl (wsV RL 97 RX10 yX10_put mwX10_putm) := gj_app (A := [.methodLink RL 97 yX10_put, .instanceMethod yX10_put, .selects RX10 yX10_put yX10_put, .initialized RX10]) (goodIn_r _ [1678, 1679, 1680, 115] (by decide +kernel) (by decide +kernel)) lg_mwX10_putm
set_option maxRecDepth 20000 in
theorem mg_L_X9_let : GoodIn lw_tbl (wsV RL 98 RX9 yX9_let mwX9_let) := gj_app (A := [.methodLink RL 98 yX9_let, .instanceMethod yX9_let, .selects RX9 yX9_let yX9_let, .initialized RX9]) (goodIn_r _ [1044, 1045, 1046, 106] (by decide +kernel) (by decide +kernel)) lg_mwX9_let
set_option maxRecDepth 20000 in
theorem mg_L_X10_let : GoodIn lw_tbl (wsV RL 101 RX10 yX10_let mwX10_letm) := gj_app (A := [.methodLink RL 101 yX10_let, .instanceMethod yX10_let, .selects RX10 yX10_let yX10_let, .initialized RX10]) (goodIn_r _ [1694, 1695, 1696, 115] (by decide +kernel) (by decide +kernel)) lg_mwX10_letm
set_option maxRecDepth 20000 in
theorem mg_L_X9_cut : GoodIn lw_tbl (wsV RL 102 RX9 yX9_cut mwX9_cut) := gj_app (A := [.methodLink RL 102 yX9_cut, .instanceMethod yX9_cut, .selects RX9 yX9_cut yX9_cut, .initialized RX9]) (goodIn_r _ [1048, 1049, 1050, 106] (by decide +kernel) (by decide +kernel)) lg_mwX9_cut
set_option maxRecDepth 20000 in
theorem mg_L_X10_cut : GoodIn lw_tbl (wsV RL 105 RX10 yX10_cut mwX10_cutm) := gj_app (A := [.methodLink RL 105 yX10_cut, .instanceMethod yX10_cut, .selects RX10 yX10_cut yX10_cut, .initialized RX10]) (goodIn_r _ [1698, 1699, 1700, 115] (by decide +kernel) (by decide +kernel)) lg_mwX10_cutm
set_option maxRecDepth 20000 in
theorem mg_L_X9_copy : GoodIn lw_tbl (wsV RL 106 RX9 yX9_copy mwX9_copy) := gj_app (A := [.methodLink RL 106 yX9_copy, .instanceMethod yX9_copy, .selects RX9 yX9_copy yX9_copy, .initialized RX9]) (goodIn_r _ [1052, 1053, 1054, 106] (by decide +kernel) (by decide +kernel)) lg_mwX9_copy
set_option maxRecDepth 20000 in
theorem mg_L_X10_copy : GoodIn lw_tbl (wsV RL 109 RX10 yX10_copy mwX10_copym) := gj_app (A := [.methodLink RL 109 yX10_copy, .instanceMethod yX10_copy, .selects RX10 yX10_copy yX10_copy, .initialized RX10]) (goodIn_r _ [1702, 1703, 1704, 115] (by decide +kernel) (by decide +kernel)) lg_mwX10_copym
set_option maxRecDepth 20000 in
theorem mg_L_X9_drop : GoodIn lw_tbl (wsV RL 110 RX9 yX9_drop mwX9_drop) := gj_app (A := [.methodLink RL 110 yX9_drop, .instanceMethod yX9_drop, .selects RX9 yX9_drop yX9_drop, .initialized RX9]) (goodIn_r _ [1063, 1064, 1065, 106] (by decide +kernel) (by decide +kernel)) lg_mwX9_drop
set_option maxRecDepth 20000 in
theorem mg_L_X10_drop : GoodIn lw_tbl (wsV RL 113 RX10 yX10_drop mwX10_dropm) := gj_app (A := [.methodLink RL 113 yX10_drop, .instanceMethod yX10_drop, .selects RX10 yX10_drop yX10_drop, .initialized RX10]) (goodIn_r _ [1706, 1707, 1708, 115] (by decide +kernel) (by decide +kernel)) lg_mwX10_dropm
set_option maxRecDepth 20000 in
theorem mg_L_X9_forget : GoodIn lw_tbl (wsV RL 114 RX9 yX9_forget mwX9_forget) := gj_app (A := [.methodLink RL 114 yX9_forget, .instanceMethod yX9_forget, .selects RX9 yX9_forget yX9_forget, .initialized RX9]) (goodIn_r _ [1071, 1072, 1073, 106] (by decide +kernel) (by decide +kernel)) lg_mwX9_forget
set_option maxRecDepth 20000 in
theorem mg_L_X10_forget : GoodIn lw_tbl (wsV RL 117 RX10 yX10_forget mwX10_forgetm) := gj_app (A := [.methodLink RL 117 yX10_forget, .instanceMethod yX10_forget, .selects RX10 yX10_forget yX10_forget, .initialized RX10]) (goodIn_r _ [1710, 1711, 1712, 115] (by decide +kernel) (by decide +kernel)) lg_mwX10_forgetm
set_option maxRecDepth 20000 in
theorem mg_L_X9_undo : GoodIn lw_tbl (wsV RL 118 RX9 yX9_undo mwX9_undo) := gj_app (A := [.methodLink RL 118 yX9_undo, .instanceMethod yX9_undo, .selects RX9 yX9_undo yX9_undo, .initialized RX9]) (goodIn_r _ [1080, 1081, 1082, 106] (by decide +kernel) (by decide +kernel)) lg_mwX9_undo
set_option maxRecDepth 20000 in
theorem mg_L_X10_undo : GoodIn lw_tbl (wsV RL 121 RX10 yX10_undo mwX10_undom) := gj_app (A := [.methodLink RL 121 yX10_undo, .instanceMethod yX10_undo, .selects RX10 yX10_undo yX10_undo, .initialized RX10]) (goodIn_r _ [1714, 1715, 1716, 115] (by decide +kernel) (by decide +kernel)) lg_mwX10_undom
set_option maxRecDepth 20000 in
theorem mg_L_X9_mark : GoodIn lw_tbl (wsV RL 122 RX9 yX9_mark mwX9_mark) := gj_app (A := [.methodLink RL 122 yX9_mark, .instanceMethod yX9_mark, .selects RX9 yX9_mark yX9_mark, .initialized RX9]) (goodIn_r _ [1084, 1085, 1086, 106] (by decide +kernel) (by decide +kernel)) lg_mwX9_mark
set_option maxRecDepth 20000 in
theorem mg_L_X10_mark : GoodIn lw_tbl (wsV RL 125 RX10 yX10_mark mwX10_markm) := gj_app (A := [.methodLink RL 125 yX10_mark, .instanceMethod yX10_mark, .selects RX10 yX10_mark yX10_mark, .initialized RX10]) (goodIn_r _ [1718, 1719, 1720, 115] (by decide +kernel) (by decide +kernel)) lg_mwX10_markm
set_option maxRecDepth 20000 in
theorem mg_L_X9_back : GoodIn lw_tbl (wsV RL 126 RX9 yX9_back mwX9_back) := gj_app (A := [.methodLink RL 126 yX9_back, .instanceMethod yX9_back, .selects RX9 yX9_back yX9_back, .initialized RX9]) (goodIn_r _ [1088, 1089, 1090, 106] (by decide +kernel) (by decide +kernel)) lg_mwX9_back
set_option maxRecDepth 20000 in
theorem mg_L_X10_back : GoodIn lw_tbl (wsV RL 129 RX10 yX10_back mwX10_backm) := gj_app (A := [.methodLink RL 129 yX10_back, .instanceMethod yX10_back, .selects RX10 yX10_back yX10_back, .initialized RX10]) (goodIn_r _ [1723, 1724, 1725, 115] (by decide +kernel) (by decide +kernel)) lg_mwX10_backm
set_option maxRecDepth 20000 in
theorem mg_L_X9_would : GoodIn lw_tbl (wsV RL 130 RX9 yX9_would mwX9_would) := gj_app (A := [.methodLink RL 130 yX9_would, .instanceMethod yX9_would, .selects RX9 yX9_would yX9_would, .initialized RX9]) (goodIn_r _ [1092, 1093, 1094, 106] (by decide +kernel) (by decide +kernel)) lg_mwX9_would
set_option maxRecDepth 20000 in
theorem mg_L_X10_would : GoodIn lw_tbl (wsV RL 133 RX10 yX10_would mwX10_wouldm) := gj_app (A := [.methodLink RL 133 yX10_would, .instanceMethod yX10_would, .selects RX10 yX10_would yX10_would, .initialized RX10]) (goodIn_r _ [1727, 1728, 1729, 115] (by decide +kernel) (by decide +kernel)) lg_mwX10_wouldm
set_option maxRecDepth 20000 in
theorem mg_L_X9_best : GoodIn lw_tbl (wsV RL 134 RX9 yX9_best mwX9_best) := gj_app (A := [.methodLink RL 134 yX9_best, .instanceMethod yX9_best, .selects RX9 yX9_best yX9_best, .initialized RX9]) (goodIn_r _ [1097, 1098, 1099, 106] (by decide +kernel) (by decide +kernel)) lg_mwX9_best
set_option maxRecDepth 20000 in
theorem mg_L_X10_best : GoodIn lw_tbl (wsV RL 137 RX10 yX10_best mwX10_bestm) := gj_app (A := [.methodLink RL 137 yX10_best, .instanceMethod yX10_best, .selects RX10 yX10_best yX10_best, .initialized RX10]) (goodIn_r _ [1731, 1732, 1733, 115] (by decide +kernel) (by decide +kernel)) lg_mwX10_bestm
