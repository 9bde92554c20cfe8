def lw_ch : List (List Cond) := [k2_sels lw_privs, tables_1_1, tables_1_2, tables_1_3, tables_1_4, tables_1_5, tables_1_6, tables_1_7]
theorem lw_ch_in : ∀ c ∈ lw_ch, ∀ w ∈ c, w ∈ lw_tbl := List.forall_mem_cons.mpr ⟨fun w h => show w ∈ k2_sels lw_privs ++ (tables_1_1 ++ (tables_1_2 ++ (tables_1_3 ++ (tables_1_4 ++ (tables_1_5 ++ (tables_1_6 ++ (tables_1_7))))))) from List.mem_append_left _ h, List.forall_mem_cons.mpr ⟨fun w h => show w ∈ k2_sels lw_privs ++ (tables_1_1 ++ (tables_1_2 ++ (tables_1_3 ++ (tables_1_4 ++ (tables_1_5 ++ (tables_1_6 ++ (tables_1_7))))))) from List.mem_append_right _ (List.mem_append_left _ h), List.forall_mem_cons.mpr ⟨fun w h => show w ∈ k2_sels lw_privs ++ (tables_1_1 ++ (tables_1_2 ++ (tables_1_3 ++ (tables_1_4 ++ (tables_1_5 ++ (tables_1_6 ++ (tables_1_7))))))) from List.mem_append_right _ (List.mem_append_right _ (List.mem_append_left _ h)), List.forall_mem_cons.mpr ⟨fun w h => show w ∈ k2_sels lw_privs ++ (tables_1_1 ++ (tables_1_2 ++ (tables_1_3 ++ (tables_1_4 ++ (tables_1_5 ++ (tables_1_6 ++ (tables_1_7))))))) from List.mem_append_right _ (List.mem_append_right _ (List.mem_append_right _ (List.mem_append_left _ h))), List.forall_mem_cons.mpr ⟨fun w h => show w ∈ k2_sels lw_privs ++ (tables_1_1 ++ (tables_1_2 ++ (tables_1_3 ++ (tables_1_4 ++ (tables_1_5 ++ (tables_1_6 ++ (tables_1_7))))))) from List.mem_append_right _ (List.mem_append_right _ (List.mem_append_right _ (List.mem_append_right _ (List.mem_append_left _ h)))), List.forall_mem_cons.mpr ⟨fun w h => show w ∈ k2_sels lw_privs ++ (tables_1_1 ++ (tables_1_2 ++ (tables_1_3 ++ (tables_1_4 ++ (tables_1_5 ++ (tables_1_6 ++ (tables_1_7))))))) from List.mem_append_right _ (List.mem_append_right _ (List.mem_append_right _ (List.mem_append_right _ (List.mem_append_right _ (List.mem_append_left _ h))))), List.forall_mem_cons.mpr ⟨fun w h => show w ∈ k2_sels lw_privs ++ (tables_1_1 ++ (tables_1_2 ++ (tables_1_3 ++ (tables_1_4 ++ (tables_1_5 ++ (tables_1_6 ++ (tables_1_7))))))) from List.mem_append_right _ (List.mem_append_right _ (List.mem_append_right _ (List.mem_append_right _ (List.mem_append_right _ (List.mem_append_right _ (List.mem_append_left _ h)))))), List.forall_mem_cons.mpr ⟨fun w h => show w ∈ k2_sels lw_privs ++ (tables_1_1 ++ (tables_1_2 ++ (tables_1_3 ++ (tables_1_4 ++ (tables_1_5 ++ (tables_1_6 ++ (tables_1_7))))))) from List.mem_append_right _ (List.mem_append_right _ (List.mem_append_right _ (List.mem_append_right _ (List.mem_append_right _ (List.mem_append_right _ (List.mem_append_right _ (h))))))), fun c h => absurd h List.not_mem_nil⟩⟩⟩⟩⟩⟩⟩⟩
def lw_at (i : Nat × Nat) : Option Cond := match lw_ch[i.1]? with
  | some c => c[i.2]?
  | none => none
theorem mem_c {w : Cond} (i : Nat × Nat) (h : lw_at i = some w) : w ∈ lw_tbl := by
  unfold lw_at at h
  cases hc : lw_ch[i.1]? with
  | none => rw [hc] at h; cases h
  | some c =>
    rw [hc] at h
    exact lw_ch_in c (List.mem_of_getElem? hc) w (List.mem_of_getElem? (show c[i.2]? = some w from h))
theorem goodIn_c (ws : List Cond) (ps : List (Nat × Nat)) (hp : ws = ps.filterMap lw_at) (h : ws.all goodWord = true) : GoodIn lw_tbl ws := by
  intro w hw
  have h1 := List.all_eq_true.mp h w hw
  rw [hp] at hw
  obtain ⟨i, -, hi⟩ := List.mem_filterMap.mp hw
  exact ⟨mem_c i hi, good_of_word h1⟩
set_option maxRecDepth 20000 in
theorem lg_wsX90 : GoodIn lw_tbl wsX90 := goodIn_c _ [(2, 27), (2, 29), (2, 31), (2, 33), (2, 35), (2, 37), (2, 39), (2, 41), (2, 43), (2, 45), (2, 47), (2, 49), (2, 51), (2, 53), (2, 55), (2, 57)] (by decide +kernel) (by decide +kernel)
set_option maxRecDepth 20000 in
theorem lg_mwX9_status : GoodIn lw_tbl mwX9_status := (gj_cons ⟨mem_c (2, 63) (by decide +kernel), good_of_word (by decide +kernel)⟩ (gj_app (goodIn_c _ [(2, 11)] (by decide +kernel) (by decide +kernel)) lg_wsX90))
set_option maxRecDepth 20000 in
theorem lg_wsX100 : GoodIn lw_tbl wsX100 := goodIn_c _ [(5, 106), (5, 108), (5, 110), (5, 112), (5, 114), (5, 116), (5, 118), (5, 120), (5, 122), (5, 124), (5, 126), (5, 128), (5, 130), (5, 132), (5, 134), (5, 136), (5, 138), (5, 140), (5, 142), (5, 144), (5, 146), (5, 148), (5, 150), (5, 152), (5, 154), (5, 156), (5, 158), (5, 160), (5, 162), (5, 164), (5, 166), (5, 168), (5, 170), (5, 172), (5, 174), (5, 176), (5, 178), (5, 180), (5, 182), (5, 184), (5, 186), (5, 188), (5, 190), (5, 192), (5, 194), (5, 196), (5, 198), (5, 200)] (by decide +kernel) (by decide +kernel)
set_option maxRecDepth 20000 in
theorem lg_mwX10_statusm : GoodIn lw_tbl mwX10_statusm := (gj_cons ⟨mem_c (5, 206) (by decide +kernel), good_of_word (by decide +kernel)⟩ (gj_app (goodIn_c _ [(5, 59)] (by decide +kernel) (by decide +kernel)) lg_wsX100))
set_option maxRecDepth 20000 in
theorem lg_mwX9_putBytes : GoodIn lw_tbl mwX9_putBytes := (gj_cons ⟨mem_c (2, 71) (by decide +kernel), good_of_word (by decide +kernel)⟩ (gj_app (goodIn_c _ [(2, 13), (2, 12)] (by decide +kernel) (by decide +kernel)) lg_wsX90))
set_option maxRecDepth 20000 in
theorem lg_mwX9_feed : GoodIn lw_tbl mwX9_feed := (gj_cons ⟨mem_c (2, 67) (by decide +kernel), good_of_word (by decide +kernel)⟩ (gj_app (goodIn_c _ [(2, 13), (2, 68), (2, 70), (0, 0), (1, 1)] (by decide +kernel) (by decide +kernel)) (gj_app lg_wsX90 lg_mwX9_putBytes)))
set_option maxRecDepth 20000 in
theorem lg_mwX10_feedm : GoodIn lw_tbl mwX10_feedm := (gj_cons ⟨mem_c (5, 210) (by decide +kernel), good_of_word (by decide +kernel)⟩ (gj_app (goodIn_c _ [(5, 64), (5, 214), (5, 62), (5, 211), (5, 213), (0, 32), (1, 10)] (by decide +kernel) (by decide +kernel)) lg_wsX100))
set_option maxRecDepth 20000 in
theorem lg_wsX00 : GoodIn lw_tbl wsX00 := goodIn_c _ [(1, 47), (1, 49), (1, 51)] (by decide +kernel) (by decide +kernel)
set_option maxRecDepth 20000 in
theorem lg_mwX9_refuse : GoodIn lw_tbl mwX9_refuse := (gj_cons ⟨mem_c (2, 79) (by decide +kernel), good_of_word (by decide +kernel)⟩ (gj_app (goodIn_c _ [(2, 11)] (by decide +kernel) (by decide +kernel)) lg_wsX90))
set_option maxRecDepth 20000 in
theorem lg_wsX60 : GoodIn lw_tbl wsX60 := goodIn_c _ [(1, 81), (1, 83), (1, 85), (1, 87), (1, 89), (1, 91), (1, 93), (1, 95), (1, 97), (1, 99), (1, 101)] (by decide +kernel) (by decide +kernel)
set_option maxRecDepth 20000 in
theorem lg_mwX6_fail : GoodIn lw_tbl mwX6_fail := (gj_cons ⟨mem_c (2, 154) (by decide +kernel), good_of_word (by decide +kernel)⟩ (gj_app (goodIn_c _ [(1, 62), (1, 64)] (by decide +kernel) (by decide +kernel)) lg_wsX60))
set_option maxRecDepth 20000 in
theorem lg_mwX9_isSmallw : GoodIn lw_tbl mwX9_isSmallw := (gj_cons ⟨mem_c (2, 93) (by decide +kernel), good_of_word (by decide +kernel)⟩ (fun w h => absurd h List.not_mem_nil))
set_option maxRecDepth 20000 in
theorem lg_mwX6_readSemicolon : GoodIn lw_tbl mwX6_readSemicolon := (gj_cons ⟨mem_c (2, 178) (by decide +kernel), good_of_word (by decide +kernel)⟩ (gj_app (goodIn_c _ [(1, 80), (2, 154), (1, 62), (1, 64), (2, 151), (2, 153), (0, 4), (1, 3)] (by decide +kernel) (by decide +kernel)) lg_wsX60))
set_option maxRecDepth 20000 in
theorem lg_mwX6_endOfPattern : GoodIn lw_tbl mwX6_endOfPattern := (gj_cons ⟨mem_c (2, 167) (by decide +kernel), good_of_word (by decide +kernel)⟩ (gj_app (goodIn_c _ [(2, 154), (1, 62), (1, 64), (2, 151), (2, 153), (0, 4), (1, 3), (2, 93), (1, 1), (2, 92), (2, 171), (2, 168), (2, 170), (0, 8), (2, 155), (1, 139), (1, 8), (1, 140), (2, 174), (2, 172), (2, 173)] (by decide +kernel) (by decide +kernel)) lg_wsX60))
set_option maxRecDepth 20000 in
theorem lg_mwX6_endOfDoc2 : GoodIn lw_tbl mwX6_endOfDoc2 := (gj_cons ⟨mem_c (2, 163) (by decide +kernel), good_of_word (by decide +kernel)⟩ (gj_app (goodIn_c _ [(2, 151), (2, 153), (0, 4), (1, 3), (1, 1), (2, 92)] (by decide +kernel) (by decide +kernel)) (gj_app lg_mwX6_fail lg_mwX9_isSmallw)))
set_option maxRecDepth 20000 in
theorem lg_mwX6_readQuote : GoodIn lw_tbl mwX6_readQuote := (gj_cons ⟨mem_c (2, 159) (by decide +kernel), good_of_word (by decide +kernel)⟩ (gj_app (goodIn_c _ [(1, 80), (2, 164), (2, 166), (0, 7), (1, 3), (1, 62), (1, 66), (1, 72), (1, 74), (1, 76), (1, 68), (1, 70), (2, 160), (2, 162), (0, 6), (2, 151), (2, 153), (0, 4)] (by decide +kernel) (by decide +kernel)) (gj_app lg_wsX60 (gj_app lg_mwX6_endOfPattern (gj_app lg_mwX6_endOfDoc2 lg_mwX6_fail)))))
set_option maxRecDepth 20000 in
theorem lg_mwJ0_coder_7d493j : GoodIn lw_tbl mwJ0_coder_7d493j := (gj_cons ⟨mem_c (2, 109) (by decide +kernel), good_of_word (by decide +kernel)⟩ (goodIn_c _ [(2, 110), (7, 191)] (by decide +kernel) (by decide +kernel)))
set_option maxRecDepth 20000 in
theorem lg_mwJ0_length_8abf5j : GoodIn lw_tbl mwJ0_length_8abf5j := (gj_cons ⟨mem_c (2, 105) (by decide +kernel), good_of_word (by decide +kernel)⟩ (gj_app (goodIn_c _ [(7, 190), (2, 106), (2, 107), (2, 108), (1, 11)] (by decide +kernel) (by decide +kernel)) lg_mwJ0_coder_7d493j))
set_option maxRecDepth 20000 in
theorem lg_mwJ0_isLatin1_aae02j : GoodIn lw_tbl mwJ0_isLatin1_aae02j := (gj_cons ⟨mem_c (2, 119) (by decide +kernel), good_of_word (by decide +kernel)⟩ (goodIn_c _ [(2, 110), (7, 191)] (by decide +kernel) (by decide +kernel)))
set_option maxRecDepth 20000 in
theorem lg_mwJ3_checkIndex_8e157jnull : GoodIn lw_tbl mwJ3_checkIndex_8e157jnull := (gj_cons ⟨mem_c (2, 130) (by decide +kernel), good_of_word (by decide +kernel)⟩ (fun w h => absurd h List.not_mem_nil))
set_option maxRecDepth 20000 in
theorem lg_mwJ3_checkIndex_8e157jref : GoodIn lw_tbl mwJ3_checkIndex_8e157jref := (gj_cons ⟨mem_c (2, 130) (by decide +kernel), good_of_word (by decide +kernel)⟩ (fun w h => absurd h List.not_mem_nil))
set_option maxRecDepth 20000 in
theorem lg_mwJ0_checkIndex_df160j : GoodIn lw_tbl mwJ0_checkIndex_df160j := (gj_cons ⟨mem_c (2, 125) (by decide +kernel), good_of_word (by decide +kernel)⟩ (gj_app (goodIn_c _ [(2, 126), (2, 128), (2, 129), (1, 13)] (by decide +kernel) (by decide +kernel)) (gj_app lg_mwJ3_checkIndex_8e157jnull lg_mwJ3_checkIndex_8e157jref)))
set_option maxRecDepth 20000 in
theorem lg_mwJ1_charAt_3b067j : GoodIn lw_tbl mwJ1_charAt_3b067j := (gj_cons ⟨mem_c (2, 122) (by decide +kernel), good_of_word (by decide +kernel)⟩ (gj_app (goodIn_c _ [(2, 123), (2, 124), (1, 11)] (by decide +kernel) (by decide +kernel)) lg_mwJ0_checkIndex_df160j))
set_option maxRecDepth 20000 in
theorem lg_mwJ0_charAt_5068ej : GoodIn lw_tbl mwJ0_charAt_5068ej := (gj_cons ⟨mem_c (2, 115) (by decide +kernel), good_of_word (by decide +kernel)⟩ (gj_app (goodIn_c _ [(2, 116), (2, 117), (2, 118), (1, 11), (7, 190), (2, 120), (2, 121), (1, 12)] (by decide +kernel) (by decide +kernel)) (gj_app lg_mwJ0_isLatin1_aae02j lg_mwJ1_charAt_3b067j)))
set_option maxRecDepth 20000 in
theorem lg_mwX6_isWord : GoodIn lw_tbl mwX6_isWord := (gj_cons ⟨mem_c (2, 101) (by decide +kernel), good_of_word (by decide +kernel)⟩ (gj_app (goodIn_c _ [(2, 102), (2, 103), (2, 104), (1, 11), (2, 112), (2, 113), (2, 114)] (by decide +kernel) (by decide +kernel)) (gj_app lg_mwJ0_length_8abf5j lg_mwJ0_charAt_5068ej)))
set_option maxRecDepth 20000 in
theorem lg_mwX6_readWord : GoodIn lw_tbl mwX6_readWord := (gj_cons ⟨mem_c (2, 97) (by decide +kernel), good_of_word (by decide +kernel)⟩ (gj_app (goodIn_c _ [(2, 99), (2, 100), (1, 3), (1, 80), (2, 151), (2, 153), (0, 4), (1, 79), (1, 70), (1, 78), (1, 68), (1, 1), (2, 92)] (by decide +kernel) (by decide +kernel)) (gj_app lg_wsX60 (gj_app lg_mwX6_isWord (gj_app lg_mwX6_fail lg_mwX9_isSmallw)))))
set_option maxRecDepth 20000 in
theorem lg_mwX6_read : GoodIn lw_tbl mwX6_read := (gj_cons ⟨mem_c (2, 87) (by decide +kernel), good_of_word (by decide +kernel)⟩ (gj_app (goodIn_c _ [(1, 62), (1, 64), (1, 66), (1, 68), (1, 70), (1, 78), (1, 79), (1, 80), (2, 88), (2, 89), (1, 8), (2, 90), (2, 151), (2, 153), (0, 4), (1, 3), (1, 1), (2, 92), (2, 175), (2, 177), (0, 9), (2, 156), (2, 158), (0, 5), (2, 155), (1, 139), (1, 140), (2, 94), (2, 96), (0, 3)] (by decide +kernel) (by decide +kernel)) (gj_app lg_wsX60 (gj_app lg_mwX6_fail (gj_app lg_mwX9_isSmallw (gj_app lg_mwX6_readSemicolon (gj_app lg_mwX6_readQuote lg_mwX6_readWord)))))))
set_option maxRecDepth 20000 in
theorem lg_mwX9_readTape : GoodIn lw_tbl mwX9_readTape := (gj_cons ⟨mem_c (2, 83) (by decide +kernel), good_of_word (by decide +kernel)⟩ (gj_app (goodIn_c _ [(2, 21), (2, 12), (2, 84), (2, 85), (2, 86), (1, 3), (1, 63), (2, 14), (1, 65), (2, 15), (2, 13)] (by decide +kernel) (by decide +kernel)) (gj_app lg_wsX90 (gj_app lg_wsX60 lg_mwX6_read))))
set_option maxRecDepth 20000 in
theorem lg_mwX0_init : GoodIn lw_tbl mwX0_init := (gj_cons ⟨mem_c (1, 38) (by decide +kernel), good_of_word (by decide +kernel)⟩ (gj_app (goodIn_c _ [(1, 39), (1, 28), (1, 29), (1, 40), (1, 43), (1, 45)] (by decide +kernel) (by decide +kernel)) lg_wsX00))
set_option maxRecDepth 20000 in
theorem lg_wsX20 : GoodIn lw_tbl wsX20 := goodIn_c _ [(4, 9), (4, 11)] (by decide +kernel) (by decide +kernel)
set_option maxRecDepth 20000 in
theorem lg_mwX2_sortTriples : GoodIn lw_tbl mwX2_sortTriples := (gj_cons ⟨mem_c (3, 230) (by decide +kernel), good_of_word (by decide +kernel)⟩ (goodIn_c _ [(3, 233), (3, 231), (3, 232), (1, 21), (3, 7), (3, 8), (2, 185), (2, 184), (1, 15), (3, 234), (3, 6), (1, 7)] (by decide +kernel) (by decide +kernel)))
set_option maxRecDepth 20000 in
theorem lg_mwJ7_copyOf_59c91 : GoodIn lw_tbl mwJ7_copyOf_59c91 := (gj_cons ⟨mem_c (3, 140) (by decide +kernel), good_of_word (by decide +kernel)⟩ (goodIn_c _ [(1, 54), (3, 127), (2, 89), (1, 8), (2, 90), (3, 128), (2, 185), (2, 184), (1, 15), (3, 129), (3, 130), (3, 131), (3, 132), (3, 133), (3, 135)] (by decide +kernel) (by decide +kernel)))
set_option maxRecDepth 20000 in
theorem lg_mwX2_init : GoodIn lw_tbl mwX2_init := (gj_cons ⟨mem_c (4, 0) (by decide +kernel), good_of_word (by decide +kernel)⟩ (gj_app (goodIn_c _ [(4, 1), (1, 28), (1, 29), (4, 2), (4, 6)] (by decide +kernel) (by decide +kernel)) lg_wsX20))
set_option maxRecDepth 20000 in
theorem lg_mwX2_made : GoodIn lw_tbl mwX2_made := (gj_cons ⟨mem_c (3, 227) (by decide +kernel), good_of_word (by decide +kernel)⟩ (gj_app (goodIn_c _ [(3, 228), (3, 229), (1, 21), (3, 235), (3, 236), (3, 237), (3, 139), (1, 16), (3, 238), (3, 239)] (by decide +kernel) (by decide +kernel)) (gj_app lg_wsX20 (gj_app lg_mwX2_sortTriples (gj_app lg_mwJ7_copyOf_59c91 lg_mwX2_init)))))
set_option maxRecDepth 20000 in
theorem lg_mwX2_told : GoodIn lw_tbl mwX2_told := (gj_cons ⟨mem_c (3, 222) (by decide +kernel), good_of_word (by decide +kernel)⟩ (gj_app (goodIn_c _ [(3, 223), (2, 89), (1, 8), (2, 90), (3, 224), (1, 139), (1, 140), (1, 54), (3, 225), (3, 226), (1, 21)] (by decide +kernel) (by decide +kernel)) lg_mwX2_made))
set_option maxRecDepth 20000 in
theorem lg_wsX10 : GoodIn lw_tbl wsX10 := goodIn_c _ [(1, 210), (1, 212), (1, 214), (1, 216), (1, 218), (1, 220), (1, 222), (1, 224), (1, 226), (1, 228), (1, 230)] (by decide +kernel) (by decide +kernel)
set_option maxRecDepth 20000 in
theorem lg_wsX50 : GoodIn lw_tbl wsX50 := goodIn_c _ [(3, 192), (3, 194), (3, 196), (3, 198), (3, 200), (3, 202), (3, 204), (3, 206), (3, 208), (3, 210), (3, 212), (3, 214), (3, 216)] (by decide +kernel) (by decide +kernel)
set_option maxRecDepth 20000 in
theorem lg_mwJ7_fill_53178 : GoodIn lw_tbl mwJ7_fill_53178 := (gj_cons ⟨mem_c (2, 192) (by decide +kernel), good_of_word (by decide +kernel)⟩ (fun w h => absurd h List.not_mem_nil))
set_option maxRecDepth 20000 in
theorem lg_mwX1_partAt : GoodIn lw_tbl mwX1_partAt := (gj_cons ⟨mem_c (2, 202) (by decide +kernel), good_of_word (by decide +kernel)⟩ (fun w h => absurd h List.not_mem_nil))
set_option maxRecDepth 20000 in
theorem lg_wsX40 : GoodIn lw_tbl wsX40 := goodIn_c _ [(1, 178), (1, 180), (1, 182), (1, 184), (1, 186), (1, 188), (1, 190), (1, 192)] (by decide +kernel) (by decide +kernel)
set_option maxRecDepth 20000 in
theorem lg_wsX70 : GoodIn lw_tbl wsX70 := goodIn_c _ [(1, 126), (1, 128)] (by decide +kernel) (by decide +kernel)
set_option maxRecDepth 20000 in
theorem lg_wsX30 : GoodIn lw_tbl wsX30 := goodIn_c _ [(1, 145), (1, 147), (1, 149), (1, 151)] (by decide +kernel) (by decide +kernel)
set_option maxRecDepth 20000 in
theorem lg_mwX4_beginBranch : GoodIn lw_tbl mwX4_beginBranch := (gj_cons ⟨mem_c (2, 206) (by decide +kernel), good_of_word (by decide +kernel)⟩ (gj_app (gj_app (gj_app (goodIn_c _ [(1, 154), (2, 210), (1, 125), (1, 124), (2, 207), (2, 208), (2, 209), (1, 6), (1, 157), (2, 214), (1, 144), (1, 143), (2, 211), (2, 212), (2, 213), (1, 7), (1, 161), (1, 164), (1, 167), (1, 170), (1, 173), (1, 176)] (by decide +kernel) (by decide +kernel)) lg_wsX40) lg_wsX70) lg_wsX30))
set_option maxRecDepth 20000 in
theorem lg_mwX1_openWhole : GoodIn lw_tbl mwX1_openWhole := (gj_cons ⟨mem_c (2, 198) (by decide +kernel), good_of_word (by decide +kernel)⟩ (gj_app (goodIn_c _ [(1, 200), (2, 199), (2, 201), (0, 12), (1, 4), (2, 203), (2, 204), (2, 205), (1, 5), (1, 201)] (by decide +kernel) (by decide +kernel)) (gj_app lg_wsX10 (gj_app lg_mwX1_partAt lg_mwX4_beginBranch))))
set_option maxRecDepth 20000 in
theorem lg_mwX3_setOfRows : GoodIn lw_tbl mwX3_setOfRows := (gj_cons ⟨mem_c (2, 222) (by decide +kernel), good_of_word (by decide +kernel)⟩ (gj_app (gj_app (goodIn_c _ [(1, 144), (2, 226), (1, 125), (2, 223), (2, 224), (2, 225), (1, 6), (2, 230), (1, 124), (2, 227), (2, 228), (2, 229), (2, 233), (2, 236), (2, 239), (3, 0), (2, 237), (2, 238), (1, 19), (2, 234), (2, 235), (1, 18), (2, 231), (2, 232), (3, 12), (1, 141), (1, 142), (3, 8), (2, 185), (2, 184), (1, 15), (1, 143), (3, 15), (3, 13), (3, 14), (1, 7), (3, 9), (3, 11), (0, 14), (3, 3), (3, 4), (3, 1), (3, 2), (3, 7), (3, 5), (3, 6)] (by decide +kernel) (by decide +kernel)) lg_wsX30) lg_wsX70))
set_option maxRecDepth 20000 in
theorem lg_mwX3_needBoth : GoodIn lw_tbl mwX3_needBoth := (gj_cons ⟨mem_c (3, 19) (by decide +kernel), good_of_word (by decide +kernel)⟩ (gj_app (goodIn_c _ [(3, 23), (1, 144), (1, 143), (3, 20), (3, 22), (0, 15), (1, 7), (3, 28), (1, 141), (3, 24), (2, 89), (1, 8), (2, 90), (1, 142), (3, 8), (2, 185), (2, 184), (1, 15), (3, 25), (3, 26), (3, 27), (3, 12), (3, 15), (3, 13), (3, 14), (3, 9), (3, 11), (0, 14), (3, 7), (3, 5), (3, 6)] (by decide +kernel) (by decide +kernel)) lg_wsX30))
set_option maxRecDepth 20000 in
theorem lg_mwX3_needEither : GoodIn lw_tbl mwX3_needEither := (gj_cons ⟨mem_c (3, 42) (by decide +kernel), good_of_word (by decide +kernel)⟩ (gj_app (goodIn_c _ [(3, 28), (1, 144), (1, 141), (3, 24), (2, 89), (1, 8), (2, 90), (1, 143), (1, 142), (3, 8), (2, 185), (2, 184), (1, 15), (3, 25), (3, 26), (3, 27), (1, 7), (2, 214), (3, 43), (2, 212), (2, 213), (3, 12), (3, 15), (3, 13), (3, 14), (3, 9), (3, 11), (0, 14)] (by decide +kernel) (by decide +kernel)) lg_wsX30))
set_option maxRecDepth 20000 in
theorem lg_mwX4_addBranch : GoodIn lw_tbl mwX4_addBranch := (gj_cons ⟨mem_c (3, 47) (by decide +kernel), good_of_word (by decide +kernel)⟩ (gj_app (gj_app (goodIn_c _ [(1, 161), (1, 164), (1, 167), (3, 56), (2, 89), (1, 8), (2, 90), (1, 170), (3, 57), (1, 139), (1, 140), (1, 173), (1, 176), (1, 154), (3, 51), (1, 125), (1, 124), (3, 55), (3, 52), (3, 53), (3, 54), (1, 6), (3, 48), (3, 49), (3, 50)] (by decide +kernel) (by decide +kernel)) lg_wsX40) lg_wsX70))
set_option maxRecDepth 20000 in
theorem lg_mwX4_take : GoodIn lw_tbl mwX4_take := (gj_cons ⟨mem_c (3, 32) (by decide +kernel), good_of_word (by decide +kernel)⟩ (gj_app (gj_app (gj_app (goodIn_c _ [(1, 154), (3, 36), (1, 125), (1, 124), (3, 37), (2, 185), (2, 184), (1, 15), (3, 33), (3, 34), (3, 35), (1, 6), (1, 157), (3, 28), (1, 144), (1, 141), (3, 24), (2, 89), (1, 8), (2, 90), (1, 143), (1, 142), (3, 8), (3, 38), (3, 26), (3, 27), (1, 7), (1, 161), (1, 164), (1, 167), (1, 170), (1, 173), (1, 176)] (by decide +kernel) (by decide +kernel)) lg_wsX40) lg_wsX70) lg_wsX30))
set_option maxRecDepth 20000 in
theorem lg_mwX1_closeBranch : GoodIn lw_tbl mwX1_closeBranch := (gj_cons ⟨mem_c (2, 218) (by decide +kernel), good_of_word (by decide +kernel)⟩ (gj_app (goodIn_c _ [(1, 200), (2, 199), (2, 201), (0, 12), (1, 4), (1, 199), (1, 204), (1, 156), (1, 206), (2, 219), (2, 220), (2, 221), (1, 7), (1, 159), (1, 205), (3, 16), (3, 17), (3, 18), (1, 171), (3, 39), (3, 40), (3, 41), (3, 44), (3, 45), (3, 46), (1, 5), (2, 203), (2, 204), (2, 205), (1, 201), (3, 29), (3, 30), (3, 31)] (by decide +kernel) (by decide +kernel)) (gj_app lg_wsX10 (gj_app lg_wsX40 (gj_app lg_mwX1_partAt (gj_app lg_mwX3_setOfRows (gj_app lg_mwX3_needBoth (gj_app lg_mwX3_needEither (gj_app lg_mwX4_addBranch (gj_app lg_mwX4_beginBranch lg_mwX4_take))))))))))
set_option maxRecDepth 20000 in
theorem lg_mwJ7_checkLength_df160 : GoodIn lw_tbl mwJ7_checkLength_df160 := (gj_cons ⟨mem_c (3, 126) (by decide +kernel), good_of_word (by decide +kernel)⟩ (fun w h => absurd h List.not_mem_nil))
set_option maxRecDepth 20000 in
theorem lg_mwJ7_copyOfRangeInt_feecc : GoodIn lw_tbl mwJ7_copyOfRangeInt_feecc := (gj_cons ⟨mem_c (3, 123) (by decide +kernel), good_of_word (by decide +kernel)⟩ (gj_app (goodIn_c _ [(3, 124), (3, 125), (1, 16), (1, 54), (3, 127), (2, 89), (1, 8), (2, 90), (3, 128), (2, 185), (2, 184), (1, 15)] (by decide +kernel) (by decide +kernel)) lg_mwJ7_checkLength_df160))
set_option maxRecDepth 20000 in
theorem lg_mwJ7_copyOfRange_feecc : GoodIn lw_tbl mwJ7_copyOfRange_feecc := (gj_cons ⟨mem_c (3, 120) (by decide +kernel), good_of_word (by decide +kernel)⟩ (gj_app (goodIn_c _ [(3, 121), (3, 122), (1, 16), (3, 129), (3, 130), (3, 131), (3, 132), (3, 133), (3, 135)] (by decide +kernel) (by decide +kernel)) lg_mwJ7_copyOfRangeInt_feecc))
set_option maxRecDepth 20000 in
theorem lg_mwX1_closedWhole : GoodIn lw_tbl mwX1_closedWhole := (gj_cons ⟨mem_c (3, 61) (by decide +kernel), good_of_word (by decide +kernel)⟩ (gj_app (goodIn_c _ [(1, 199), (2, 199), (2, 201), (0, 12), (1, 4), (1, 171), (1, 162), (1, 159), (1, 156), (1, 206), (2, 219), (2, 220), (2, 221), (1, 7)] (by decide +kernel) (by decide +kernel)) (gj_app lg_wsX10 (gj_app lg_wsX40 (gj_app lg_mwX1_partAt lg_mwX3_setOfRows)))))
set_option maxRecDepth 20000 in
theorem lg_mwX3_order : GoodIn lw_tbl mwX3_order := (gj_cons ⟨mem_c (3, 154) (by decide +kernel), good_of_word (by decide +kernel)⟩ (gj_app (goodIn_c _ [(1, 144), (1, 54), (3, 158), (1, 143), (3, 24), (2, 89), (1, 8), (2, 90), (1, 142), (3, 155), (3, 157), (0, 22), (1, 7)] (by decide +kernel) (by decide +kernel)) lg_wsX30))
set_option maxRecDepth 20000 in
theorem lg_mwX3_startsBy : GoodIn lw_tbl mwX3_startsBy := (gj_cons ⟨mem_c (3, 162) (by decide +kernel), good_of_word (by decide +kernel)⟩ (gj_app (goodIn_c _ [(1, 54), (1, 143)] (by decide +kernel) (by decide +kernel)) lg_wsX30))
set_option maxRecDepth 20000 in
theorem lg_mwX3_triplesBy : GoodIn lw_tbl mwX3_triplesBy := (gj_cons ⟨mem_c (3, 166) (by decide +kernel), good_of_word (by decide +kernel)⟩ (gj_app (goodIn_c _ [(1, 54), (1, 142), (1, 143), (3, 8), (2, 185), (2, 184), (1, 15)] (by decide +kernel) (by decide +kernel)) lg_wsX30))
set_option maxRecDepth 20000 in
theorem lg_mwX3_insert : GoodIn lw_tbl mwX3_insert := (gj_cons ⟨mem_c (3, 7) (by decide +kernel), good_of_word (by decide +kernel)⟩ (goodIn_c _ [(3, 8), (2, 185), (2, 184), (1, 15)] (by decide +kernel) (by decide +kernel)))
set_option maxRecDepth 20000 in
theorem lg_mwX3_unlikeOf : GoodIn lw_tbl mwX3_unlikeOf := (gj_cons ⟨mem_c (3, 169) (by decide +kernel), good_of_word (by decide +kernel)⟩ (gj_app (goodIn_c _ [(1, 54), (3, 170), (3, 139), (1, 16), (3, 5), (3, 6), (1, 7)] (by decide +kernel) (by decide +kernel)) (gj_app lg_mwJ7_copyOf_59c91 lg_mwX3_insert)))
set_option maxRecDepth 20000 in
theorem lg_mwX7_inOrder : GoodIn lw_tbl mwX7_inOrder := (gj_cons ⟨mem_c (3, 150) (by decide +kernel), good_of_word (by decide +kernel)⟩ (gj_app (goodIn_c _ [(1, 125), (1, 131), (1, 124)] (by decide +kernel) (by decide +kernel)) lg_wsX70))
set_option maxRecDepth 20000 in
theorem lg_mwX5_init2 : GoodIn lw_tbl mwX5_init2 := (gj_cons ⟨mem_c (3, 145) (by decide +kernel), good_of_word (by decide +kernel)⟩ (gj_app (goodIn_c _ [(3, 146), (1, 28), (1, 29), (3, 171), (1, 169), (3, 173), (1, 163), (3, 175), (1, 166), (3, 177), (1, 172), (3, 179), (1, 175), (3, 180), (3, 181), (3, 183), (1, 160), (3, 184), (1, 131), (3, 186), (1, 158), (3, 151), (3, 152), (3, 153), (1, 7), (3, 159), (3, 160), (3, 161), (3, 189), (3, 163), (3, 164), (3, 165), (3, 188), (3, 167), (3, 168), (3, 190), (1, 155), (3, 147), (3, 148), (3, 149), (1, 6)] (by decide +kernel) (by decide +kernel)) (gj_app lg_wsX50 (gj_app lg_wsX40 (gj_app lg_mwX3_order (gj_app lg_mwX3_startsBy (gj_app lg_mwX3_triplesBy (gj_app lg_mwX3_unlikeOf lg_mwX7_inOrder))))))))
set_option maxRecDepth 20000 in
theorem lg_mwX4_setSpot : GoodIn lw_tbl mwX4_setSpot := (gj_cons ⟨mem_c (3, 71) (by decide +kernel), good_of_word (by decide +kernel)⟩ (gj_app (gj_app (gj_app (goodIn_c _ [(1, 157), (2, 214), (1, 144), (1, 143), (2, 211), (2, 212), (2, 213), (1, 7), (1, 154), (3, 75), (1, 125), (3, 72), (3, 73), (3, 74), (1, 6), (3, 78), (3, 79), (3, 80), (3, 81), (3, 76), (3, 77), (1, 19), (1, 161), (1, 164), (1, 167), (1, 170), (1, 173), (1, 176), (3, 84), (3, 82), (3, 83), (3, 55), (1, 124), (3, 85), (3, 53), (3, 54)] (by decide +kernel) (by decide +kernel)) lg_wsX40) lg_wsX30) lg_wsX70))
set_option maxRecDepth 20000 in
theorem lg_mwX1_readSpot : GoodIn lw_tbl mwX1_readSpot := (gj_cons ⟨mem_c (3, 65) (by decide +kernel), good_of_word (by decide +kernel)⟩ (gj_app (goodIn_c _ [(1, 1), (2, 92), (1, 209), (1, 202), (3, 68), (3, 69), (3, 70), (1, 5), (1, 208), (3, 66)] (by decide +kernel) (by decide +kernel)) (gj_app lg_wsX10 (gj_app lg_mwX9_isSmallw lg_mwX4_setSpot))))
set_option maxRecDepth 20000 in
theorem lg_mwX6_isSign : GoodIn lw_tbl mwX6_isSign := (gj_cons ⟨mem_c (2, 174) (by decide +kernel), good_of_word (by decide +kernel)⟩ (fun w h => absurd h List.not_mem_nil))
set_option maxRecDepth 20000 in
theorem lg_mwX4_addSign : GoodIn lw_tbl mwX4_addSign := (gj_cons ⟨mem_c (3, 94) (by decide +kernel), good_of_word (by decide +kernel)⟩ (gj_app (gj_app (gj_app (goodIn_c _ [(1, 170), (1, 161), (1, 157), (2, 214), (1, 144), (1, 143), (2, 211), (2, 212), (2, 213), (1, 7), (1, 164), (1, 167), (1, 154), (3, 55), (1, 125), (1, 124), (3, 85), (3, 53), (3, 54), (1, 6)] (by decide +kernel) (by decide +kernel)) lg_wsX40) lg_wsX30) lg_wsX70))
set_option maxRecDepth 20000 in
theorem lg_mwX1_addFollow : GoodIn lw_tbl mwX1_addFollow := (gj_cons ⟨mem_c (3, 98) (by decide +kernel), good_of_word (by decide +kernel)⟩ (gj_app (goodIn_c _ [(1, 209), (1, 207)] (by decide +kernel) (by decide +kernel)) lg_wsX10))
set_option maxRecDepth 20000 in
theorem lg_mwX1_readSign : GoodIn lw_tbl mwX1_readSign := (gj_cons ⟨mem_c (3, 89) (by decide +kernel), good_of_word (by decide +kernel)⟩ (gj_app (goodIn_c _ [(3, 90), (2, 173), (1, 3), (3, 91), (3, 92), (3, 93), (1, 5), (1, 177), (1, 174), (3, 95), (3, 97), (0, 19), (1, 4)] (by decide +kernel) (by decide +kernel)) (gj_app lg_wsX40 (gj_app lg_mwX6_isSign (gj_app lg_mwX4_addSign lg_mwX1_addFollow)))))
set_option maxRecDepth 20000 in
theorem lg_mwX7_join : GoodIn lw_tbl mwX7_join := (gj_cons ⟨mem_c (3, 106) (by decide +kernel), good_of_word (by decide +kernel)⟩ (gj_app (goodIn_c _ [(1, 125), (1, 124), (2, 233), (2, 236), (2, 239), (3, 0), (2, 237), (2, 238), (1, 19), (2, 234), (2, 235), (1, 18), (3, 110), (2, 232), (1, 6), (3, 55), (3, 52), (3, 53), (3, 54), (3, 109), (3, 111), (3, 107), (3, 108)] (by decide +kernel) (by decide +kernel)) lg_wsX70))
set_option maxRecDepth 20000 in
theorem lg_mwX7_take : GoodIn lw_tbl mwX7_take := (gj_cons ⟨mem_c (3, 36) (by decide +kernel), good_of_word (by decide +kernel)⟩ (gj_app (goodIn_c _ [(1, 125), (1, 124), (3, 37), (2, 185), (2, 184), (1, 15)] (by decide +kernel) (by decide +kernel)) lg_wsX70))
set_option maxRecDepth 20000 in
theorem lg_mwX7_setEmptyRow : GoodIn lw_tbl mwX7_setEmptyRow := (gj_cons ⟨mem_c (2, 210) (by decide +kernel), good_of_word (by decide +kernel)⟩ (gj_app (goodIn_c _ [(1, 125), (1, 124)] (by decide +kernel) (by decide +kernel)) lg_wsX70))
set_option maxRecDepth 20000 in
theorem lg_mwX1_addRows : GoodIn lw_tbl mwX1_addRows := (gj_cons ⟨mem_c (3, 102) (by decide +kernel), good_of_word (by decide +kernel)⟩ (gj_app (goodIn_c _ [(1, 162), (1, 204), (1, 156), (1, 206), (2, 219), (2, 220), (2, 221), (1, 7), (1, 159), (1, 205), (3, 16), (3, 17), (3, 18), (1, 203), (3, 103), (3, 104), (3, 105), (1, 6), (3, 113), (3, 34), (3, 35), (3, 112), (2, 208), (2, 209)] (by decide +kernel) (by decide +kernel)) (gj_app lg_wsX40 (gj_app lg_wsX10 (gj_app lg_mwX3_setOfRows (gj_app lg_mwX3_needBoth (gj_app lg_mwX7_join (gj_app lg_mwX7_take lg_mwX7_setEmptyRow))))))))
set_option maxRecDepth 20000 in
theorem lg_mwX1_addSpots : GoodIn lw_tbl mwX1_addSpots := (gj_cons ⟨mem_c (3, 117) (by decide +kernel), good_of_word (by decide +kernel)⟩ (gj_app (goodIn_c _ [(1, 177), (1, 174), (3, 95), (3, 97), (0, 19), (1, 4), (1, 165), (1, 168), (1, 171), (2, 193), (1, 139), (1, 8), (1, 140)] (by decide +kernel) (by decide +kernel)) (gj_app lg_wsX40 lg_mwX1_addFollow)))
set_option maxRecDepth 20000 in
theorem lg_mwX1_compile : GoodIn lw_tbl mwX1_compile := (gj_cons ⟨mem_c (2, 189) (by decide +kernel), good_of_word (by decide +kernel)⟩ (gj_app (goodIn_c _ [(1, 209), (1, 207), (2, 190), (2, 191), (1, 16), (1, 208), (2, 193), (1, 139), (1, 8), (1, 140), (2, 194), (2, 89), (2, 90), (2, 195), (2, 197), (0, 11), (1, 4), (2, 215), (2, 217), (0, 13), (3, 118), (3, 119), (3, 136), (3, 137), (1, 20), (3, 58), (3, 60), (0, 16), (3, 138), (3, 139), (3, 141), (3, 130), (3, 131), (3, 132), (3, 133), (3, 142), (3, 143), (3, 144), (1, 202), (3, 62), (3, 64), (0, 17), (3, 86), (3, 88), (0, 18), (1, 200), (2, 199), (2, 201), (0, 12), (3, 99), (3, 101), (0, 20), (3, 114), (3, 116), (0, 21)] (by decide +kernel) (by decide +kernel)) (gj_app lg_wsX10 (gj_app lg_wsX50 (gj_app lg_mwJ7_fill_53178 (gj_app lg_mwX1_openWhole (gj_app lg_mwX1_closeBranch (gj_app lg_mwJ7_copyOfRange_feecc (gj_app lg_mwX1_closedWhole (gj_app lg_mwJ7_copyOf_59c91 (gj_app lg_mwX5_init2 (gj_app lg_mwX1_readSpot (gj_app lg_mwX1_readSign (gj_app lg_mwX1_partAt (gj_app lg_mwX1_addRows lg_mwX1_addSpots)))))))))))))))
set_option maxRecDepth 20000 in
theorem lg_mwX9_bookBehind : GoodIn lw_tbl mwX9_bookBehind := (gj_cons ⟨mem_c (2, 182) (by decide +kernel), good_of_word (by decide +kernel)⟩ (gj_app (goodIn_c _ [(2, 21), (1, 69), (1, 32), (1, 71), (1, 34), (2, 183), (2, 185), (2, 184), (1, 15), (1, 67), (1, 30), (1, 31), (1, 2), (2, 16), (1, 36), (1, 37), (1, 73), (1, 75), (1, 77), (2, 12), (2, 25), (3, 220), (3, 221), (1, 21), (2, 22), (2, 186), (2, 187), (2, 188), (1, 4)] (by decide +kernel) (by decide +kernel)) (gj_app lg_wsX90 (gj_app lg_wsX60 (gj_app lg_wsX00 (gj_app lg_mwX0_init (gj_app lg_mwX2_told lg_mwX1_compile)))))))
set_option maxRecDepth 20000 in
theorem lg_mwX9_act : GoodIn lw_tbl mwX9_act := (gj_cons ⟨mem_c (4, 17) (by decide +kernel), good_of_word (by decide +kernel)⟩ (gj_app (goodIn_c _ [(2, 16), (2, 17), (4, 18), (2, 89), (1, 8), (2, 90)] (by decide +kernel) (by decide +kernel)) lg_wsX90))
set_option maxRecDepth 20000 in
theorem lg_mwX9_answer : GoodIn lw_tbl mwX9_answer := (gj_cons ⟨mem_c (4, 22) (by decide +kernel), good_of_word (by decide +kernel)⟩ (gj_app (goodIn_c _ [(2, 11)] (by decide +kernel) (by decide +kernel)) lg_wsX90))
set_option maxRecDepth 20000 in
theorem lg_mwX9_load : GoodIn lw_tbl mwX9_load := (gj_cons ⟨mem_c (2, 75) (by decide +kernel), good_of_word (by decide +kernel)⟩ (gj_app (goodIn_c _ [(2, 76), (2, 78), (0, 1), (1, 1), (2, 13), (2, 80), (2, 82), (0, 2), (1, 32), (1, 34), (2, 179), (2, 181), (0, 10), (4, 14), (4, 16), (0, 23), (2, 16), (1, 42), (4, 19), (4, 21), (0, 24)] (by decide +kernel) (by decide +kernel)) (gj_app lg_wsX90 (gj_app lg_wsX00 (gj_app lg_mwX9_refuse (gj_app lg_mwX9_readTape (gj_app lg_mwX9_bookBehind (gj_app lg_mwX9_act lg_mwX9_answer))))))))
set_option maxRecDepth 20000 in
theorem lg_mwX10_isFromm : GoodIn lw_tbl mwX10_isFromm := (gj_cons ⟨mem_c (5, 221) (by decide +kernel), good_of_word (by decide +kernel)⟩ (fun w h => absurd h List.not_mem_nil))
set_option maxRecDepth 20000 in
theorem lg_mwX10_copiesm : GoodIn lw_tbl mwX10_copiesm := (gj_cons ⟨mem_c (5, 233) (by decide +kernel), good_of_word (by decide +kernel)⟩ (gj_app (goodIn_c _ [(5, 58)] (by decide +kernel) (by decide +kernel)) lg_wsX100))
set_option maxRecDepth 20000 in
theorem lg_mwX10_aheadm : GoodIn lw_tbl mwX10_aheadm := (gj_cons ⟨mem_c (5, 237) (by decide +kernel), good_of_word (by decide +kernel)⟩ (gj_app (goodIn_c _ [(5, 68), (6, 1), (5, 65), (5, 63), (5, 238), (6, 0), (0, 37), (1, 10), (5, 67), (6, 4), (6, 2), (6, 3), (5, 66)] (by decide +kernel) (by decide +kernel)) lg_wsX100))
set_option maxRecDepth 20000 in
theorem lg_mwX10_byteAtm : GoodIn lw_tbl mwX10_byteAtm := (gj_cons ⟨mem_c (6, 1) (by decide +kernel), good_of_word (by decide +kernel)⟩ (gj_app (goodIn_c _ [(5, 65), (5, 63)] (by decide +kernel) (by decide +kernel)) lg_wsX100))
set_option maxRecDepth 20000 in
theorem lg_mwX10_isWordm : GoodIn lw_tbl mwX10_isWordm := (gj_cons ⟨mem_c (6, 13) (by decide +kernel), good_of_word (by decide +kernel)⟩ (gj_app (goodIn_c _ [(5, 66), (6, 14), (2, 103), (2, 104), (1, 11), (5, 67), (5, 238), (6, 0), (0, 37), (1, 10), (6, 15), (2, 113), (2, 114), (5, 68)] (by decide +kernel) (by decide +kernel)) (gj_app lg_wsX100 (gj_app lg_mwJ0_length_8abf5j (gj_app lg_mwX10_byteAtm lg_mwJ0_charAt_5068ej)))))
set_option maxRecDepth 20000 in
theorem lg_mwX10_patternQuotem : GoodIn lw_tbl mwX10_patternQuotem := (gj_cons ⟨mem_c (6, 32) (by decide +kernel), good_of_word (by decide +kernel)⟩ (gj_app (goodIn_c _ [(5, 68), (5, 72), (6, 36), (6, 40), (6, 1), (5, 65), (5, 63), (5, 238), (6, 0), (0, 37), (1, 10), (6, 44), (6, 4), (6, 2), (6, 3), (6, 41), (6, 43), (0, 46), (6, 48), (6, 52), (6, 24), (5, 69), (5, 70), (6, 21), (6, 23), (0, 41), (6, 55), (6, 53), (6, 54), (6, 49), (6, 51), (0, 48), (6, 45), (6, 47), (0, 47), (6, 37), (6, 39), (0, 45), (6, 33), (6, 35), (0, 44), (5, 58)] (by decide +kernel) (by decide +kernel)) lg_wsX100))
set_option maxRecDepth 20000 in
theorem lg_mwX10_failsm : GoodIn lw_tbl mwX10_failsm := (gj_cons ⟨mem_c (6, 20) (by decide +kernel), good_of_word (by decide +kernel)⟩ (gj_app (goodIn_c _ [(5, 66), (5, 67), (6, 24), (5, 69), (5, 70), (6, 21), (6, 23), (0, 41), (1, 10)] (by decide +kernel) (by decide +kernel)) lg_wsX100))
set_option maxRecDepth 20000 in
theorem lg_mwX10_docQuotem : GoodIn lw_tbl mwX10_docQuotem := (gj_cons ⟨mem_c (6, 28) (by decide +kernel), good_of_word (by decide +kernel)⟩ (gj_app (goodIn_c _ [(5, 58), (5, 68), (6, 1), (5, 65), (5, 63), (5, 238), (6, 0), (0, 37), (1, 10), (6, 4), (6, 2), (6, 3), (6, 24), (5, 69), (5, 70), (6, 21), (6, 23), (0, 41)] (by decide +kernel) (by decide +kernel)) lg_wsX100))
set_option maxRecDepth 20000 in
theorem lg_mwX10_aLinem : GoodIn lw_tbl mwX10_aLinem := (gj_cons ⟨mem_c (6, 8) (by decide +kernel), good_of_word (by decide +kernel)⟩ (gj_app (goodIn_c _ [(6, 10), (6, 12), (0, 39), (1, 10), (5, 58), (5, 234), (5, 236), (0, 36), (5, 66), (6, 29), (6, 31), (0, 43), (6, 17), (6, 19), (0, 40), (6, 25), (6, 27), (0, 42)] (by decide +kernel) (by decide +kernel)) (gj_app lg_wsX100 (gj_app lg_mwX10_isWordm (gj_app lg_mwX10_aheadm (gj_app lg_mwX10_patternQuotem (gj_app lg_mwX10_failsm lg_mwX10_docQuotem)))))))
set_option maxRecDepth 20000 in
theorem lg_mwX10_readsm : GoodIn lw_tbl mwX10_readsm := (gj_cons ⟨mem_c (5, 229) (by decide +kernel), good_of_word (by decide +kernel)⟩ (gj_app (goodIn_c _ [(5, 65), (5, 64), (5, 69), (5, 70), (5, 68), (5, 230), (5, 232), (0, 35), (1, 10), (5, 234), (5, 236), (0, 36), (5, 71), (5, 66), (6, 5), (6, 7), (0, 38), (5, 58), (5, 63), (5, 62)] (by decide +kernel) (by decide +kernel)) (gj_app lg_wsX100 (gj_app lg_mwX10_copiesm (gj_app lg_mwX10_aheadm lg_mwX10_aLinem)))))
set_option maxRecDepth 20000 in
theorem lg_mwX10_actedm : GoodIn lw_tbl mwX10_actedm := (gj_cons ⟨mem_c (6, 59) (by decide +kernel), good_of_word (by decide +kernel)⟩ (gj_app (goodIn_c _ [(5, 60), (5, 230), (5, 232), (0, 35), (1, 10)] (by decide +kernel) (by decide +kernel)) (gj_app lg_wsX100 lg_mwX10_copiesm)))
set_option maxRecDepth 20000 in
theorem lg_mwX10_givesm : GoodIn lw_tbl mwX10_givesm := (gj_cons ⟨mem_c (6, 63) (by decide +kernel), good_of_word (by decide +kernel)⟩ (gj_app (goodIn_c _ [(5, 59)] (by decide +kernel) (by decide +kernel)) lg_wsX100))
set_option maxRecDepth 20000 in
theorem lg_mwX10_refusem : GoodIn lw_tbl mwX10_refusem := (gj_cons ⟨mem_c (5, 225) (by decide +kernel), good_of_word (by decide +kernel)⟩ (gj_app (goodIn_c _ [(5, 59)] (by decide +kernel) (by decide +kernel)) lg_wsX100))
set_option maxRecDepth 20000 in
theorem lg_mwX10_loadm : GoodIn lw_tbl mwX10_loadm := (gj_cons ⟨mem_c (5, 218) (by decide +kernel), good_of_word (by decide +kernel)⟩ (gj_app (goodIn_c _ [(5, 64), (5, 219), (5, 220), (1, 10), (5, 226), (5, 228), (0, 34), (6, 56), (6, 58), (0, 49), (5, 58), (6, 60), (6, 62), (0, 50), (5, 222), (5, 224), (0, 33)] (by decide +kernel) (by decide +kernel)) (gj_app lg_wsX100 (gj_app lg_mwX10_isFromm (gj_app lg_mwX10_readsm (gj_app lg_mwX10_actedm (gj_app lg_mwX10_givesm lg_mwX10_refusem)))))))
set_option maxRecDepth 20000 in
theorem lg_mwX9_more : GoodIn lw_tbl mwX9_more := (gj_cons ⟨mem_c (4, 26) (by decide +kernel), good_of_word (by decide +kernel)⟩ (gj_app (goodIn_c _ [(2, 76), (2, 78), (0, 1), (1, 1), (2, 13), (2, 16), (1, 42), (1, 44), (2, 80), (2, 82), (0, 2), (2, 179), (2, 181), (0, 10), (4, 14), (4, 16), (0, 23), (2, 21), (1, 67), (4, 19), (4, 21), (0, 24)] (by decide +kernel) (by decide +kernel)) (gj_app lg_wsX90 (gj_app lg_wsX00 (gj_app lg_wsX60 (gj_app lg_mwX9_refuse (gj_app lg_mwX9_readTape (gj_app lg_mwX9_bookBehind (gj_app lg_mwX9_act lg_mwX9_answer)))))))))
set_option maxRecDepth 20000 in
theorem lg_mwX10_morem : GoodIn lw_tbl mwX10_morem := (gj_cons ⟨mem_c (6, 67) (by decide +kernel), good_of_word (by decide +kernel)⟩ (gj_app (goodIn_c _ [(5, 64), (5, 219), (5, 220), (1, 10), (5, 226), (5, 228), (0, 34), (6, 56), (6, 58), (0, 49), (5, 58), (6, 60), (6, 62), (0, 50), (5, 222), (5, 224), (0, 33)] (by decide +kernel) (by decide +kernel)) (gj_app lg_wsX100 (gj_app lg_mwX10_isFromm (gj_app lg_mwX10_readsm (gj_app lg_mwX10_actedm (gj_app lg_mwX10_givesm lg_mwX10_refusem)))))))
set_option maxRecDepth 20000 in
theorem lg_mwX9_fault : GoodIn lw_tbl mwX9_fault := (gj_cons ⟨mem_c (4, 30) (by decide +kernel), good_of_word (by decide +kernel)⟩ (gj_app (goodIn_c _ [(2, 15), (2, 14)] (by decide +kernel) (by decide +kernel)) lg_wsX90))
set_option maxRecDepth 20000 in
theorem lg_mwX10_faultm : GoodIn lw_tbl mwX10_faultm := (gj_cons ⟨mem_c (6, 71) (by decide +kernel), good_of_word (by decide +kernel)⟩ (gj_app (goodIn_c _ [(5, 70), (5, 71)] (by decide +kernel) (by decide +kernel)) lg_wsX100))
set_option maxRecDepth 20000 in
theorem lg_mwX0_allLetters : GoodIn lw_tbl mwX0_allLetters := (gj_cons ⟨mem_c (4, 38) (by decide +kernel), good_of_word (by decide +kernel)⟩ (gj_app (gj_app (goodIn_c _ [(1, 40), (4, 3)] (by decide +kernel) (by decide +kernel)) lg_wsX00) lg_wsX20))
set_option maxRecDepth 20000 in
theorem lg_mwX0_allTriples : GoodIn lw_tbl mwX0_allTriples := (gj_cons ⟨mem_c (4, 42) (by decide +kernel), good_of_word (by decide +kernel)⟩ (gj_app (gj_app (goodIn_c _ [(1, 40), (4, 7), (4, 46), (4, 50), (4, 6), (4, 47), (4, 48), (4, 49), (1, 21), (4, 43), (4, 44), (4, 45), (1, 2), (2, 239), (3, 0), (4, 51), (2, 238), (1, 19)] (by decide +kernel) (by decide +kernel)) lg_wsX00) lg_wsX20))
set_option maxRecDepth 20000 in
theorem lg_mwX9_many : GoodIn lw_tbl mwX9_many := (gj_cons ⟨mem_c (4, 34) (by decide +kernel), good_of_word (by decide +kernel)⟩ (gj_app (goodIn_c _ [(2, 16), (1, 42), (4, 19), (4, 21), (0, 24), (1, 1), (1, 44), (4, 35), (4, 36), (4, 37), (1, 2), (4, 39), (4, 40), (4, 41), (2, 17), (2, 20), (2, 76), (2, 78), (0, 1)] (by decide +kernel) (by decide +kernel)) (gj_app lg_wsX90 (gj_app lg_wsX00 (gj_app lg_mwX9_answer (gj_app lg_mwX0_allLetters (gj_app lg_mwX0_allTriples lg_mwX9_refuse)))))))
set_option maxRecDepth 20000 in
theorem lg_mwX10_sizeOfm : GoodIn lw_tbl mwX10_sizeOfm := (gj_cons ⟨mem_c (6, 83) (by decide +kernel), good_of_word (by decide +kernel)⟩ (gj_app (goodIn_c _ [(5, 58)] (by decide +kernel) (by decide +kernel)) lg_wsX100))
set_option maxRecDepth 20000 in
theorem lg_mwX10_allLettersm : GoodIn lw_tbl mwX10_allLettersm := (gj_cons ⟨mem_c (6, 79) (by decide +kernel), good_of_word (by decide +kernel)⟩ (gj_app (goodIn_c _ [(5, 58), (6, 80), (6, 82), (0, 52), (1, 10)] (by decide +kernel) (by decide +kernel)) (gj_app lg_wsX100 lg_mwX10_sizeOfm)))
set_option maxRecDepth 20000 in
theorem lg_mwX10_atm : GoodIn lw_tbl mwX10_atm := (gj_cons ⟨mem_c (6, 95) (by decide +kernel), good_of_word (by decide +kernel)⟩ (gj_app (goodIn_c _ [(5, 58)] (by decide +kernel) (by decide +kernel)) lg_wsX100))
set_option maxRecDepth 20000 in
theorem lg_mwX10_tripleAtm : GoodIn lw_tbl mwX10_tripleAtm := (gj_cons ⟨mem_c (6, 91) (by decide +kernel), good_of_word (by decide +kernel)⟩ (gj_app (goodIn_c _ [(6, 92), (6, 94), (0, 55), (1, 10)] (by decide +kernel) (by decide +kernel)) lg_mwX10_atm))
set_option maxRecDepth 20000 in
theorem lg_mwX10_unlikem : GoodIn lw_tbl mwX10_unlikem := (gj_cons ⟨mem_c (6, 87) (by decide +kernel), good_of_word (by decide +kernel)⟩ (gj_app (goodIn_c _ [(6, 80), (6, 82), (0, 52), (1, 10), (5, 103), (6, 88), (6, 90), (0, 54)] (by decide +kernel) (by decide +kernel)) (gj_app lg_wsX100 (gj_app lg_mwX10_sizeOfm lg_mwX10_tripleAtm))))
set_option maxRecDepth 20000 in
theorem lg_mwX10_manym : GoodIn lw_tbl mwX10_manym := (gj_cons ⟨mem_c (6, 75) (by decide +kernel), good_of_word (by decide +kernel)⟩ (gj_app (goodIn_c _ [(5, 58), (6, 60), (6, 62), (0, 50), (1, 10), (6, 76), (6, 78), (0, 51), (6, 84), (6, 86), (0, 53), (5, 60), (5, 61), (5, 222), (5, 224), (0, 33)] (by decide +kernel) (by decide +kernel)) (gj_app lg_wsX100 (gj_app lg_mwX10_givesm (gj_app lg_mwX10_allLettersm (gj_app lg_mwX10_unlikem lg_mwX10_refusem))))))
set_option maxRecDepth 20000 in
theorem lg_mwX0_docAt : GoodIn lw_tbl mwX0_docAt := (gj_cons ⟨mem_c (4, 59) (by decide +kernel), good_of_word (by decide +kernel)⟩ (gj_app (goodIn_c _ [(1, 40)] (by decide +kernel) (by decide +kernel)) lg_wsX00))
set_option maxRecDepth 20000 in
theorem lg_wsX80 : GoodIn lw_tbl wsX80 := goodIn_c _ [(2, 4), (2, 6), (2, 8)] (by decide +kernel) (by decide +kernel)
set_option maxRecDepth 20000 in
theorem lg_mwX0_patternAt2 : GoodIn lw_tbl mwX0_patternAt2 := (gj_cons ⟨mem_c (4, 67) (by decide +kernel), good_of_word (by decide +kernel)⟩ (gj_app (goodIn_c _ [(1, 43)] (by decide +kernel) (by decide +kernel)) lg_wsX00))
set_option maxRecDepth 20000 in
theorem lg_mwX8_through : GoodIn lw_tbl mwX8_through := (gj_cons ⟨mem_c (4, 87) (by decide +kernel), good_of_word (by decide +kernel)⟩ (gj_app (gj_app (gj_app (gj_app (goodIn_c _ [(1, 239), (2, 1), (4, 91), (3, 189), (4, 88), (4, 89), (4, 90), (1, 20), (4, 95), (4, 92), (4, 93), (4, 94), (2, 3), (4, 96), (2, 89), (1, 8), (2, 90), (4, 105), (2, 239), (3, 0), (4, 106), (2, 238), (1, 19), (4, 102), (4, 104), (0, 29), (1, 9), (4, 100), (3, 188), (4, 97), (4, 98), (4, 99), (4, 46), (1, 40), (4, 50), (4, 6), (4, 47), (4, 48), (4, 49), (1, 21), (4, 101), (4, 44), (4, 45), (1, 2), (1, 41)] (by decide +kernel) (by decide +kernel)) lg_wsX80) lg_wsX50) lg_wsX00) lg_wsX20))
set_option maxRecDepth 20000 in
theorem lg_mwX9_admittingPatterns : GoodIn lw_tbl mwX9_admittingPatterns := (gj_cons ⟨mem_c (4, 83) (by decide +kernel), good_of_word (by decide +kernel)⟩ (gj_app (goodIn_c _ [(2, 16), (1, 44), (4, 64), (4, 65), (4, 66), (1, 2), (2, 23), (4, 84), (4, 85), (4, 86), (1, 9), (2, 0)] (by decide +kernel) (by decide +kernel)) (gj_app lg_wsX90 (gj_app lg_wsX00 (gj_app lg_wsX80 (gj_app lg_mwX0_patternAt2 lg_mwX8_through))))))
set_option maxRecDepth 20000 in
theorem lg_mwX5_fits : GoodIn lw_tbl mwX5_fits := (gj_cons ⟨mem_c (4, 71) (by decide +kernel), good_of_word (by decide +kernel)⟩ (gj_app (gj_app (goodIn_c _ [(3, 175), (4, 5), (3, 179), (4, 75), (3, 181), (4, 72), (4, 74), (0, 26), (1, 20), (4, 79), (3, 183), (4, 76), (4, 78), (0, 27), (3, 180)] (by decide +kernel) (by decide +kernel)) lg_wsX50) lg_wsX20))
set_option maxRecDepth 20000 in
theorem lg_mwX9_fittingPatterns : GoodIn lw_tbl mwX9_fittingPatterns := (gj_cons ⟨mem_c (4, 63) (by decide +kernel), good_of_word (by decide +kernel)⟩ (gj_app (goodIn_c _ [(2, 16), (1, 44), (4, 64), (4, 65), (4, 66), (1, 2), (4, 68), (4, 69), (4, 70), (1, 20)] (by decide +kernel) (by decide +kernel)) (gj_app lg_wsX90 (gj_app lg_wsX00 (gj_app lg_mwX0_patternAt2 lg_mwX5_fits)))))
set_option maxRecDepth 20000 in
theorem lg_mwX9_document : GoodIn lw_tbl mwX9_document := (gj_cons ⟨mem_c (4, 55) (by decide +kernel), good_of_word (by decide +kernel)⟩ (gj_app (goodIn_c _ [(2, 76), (2, 78), (0, 1), (1, 1), (2, 16), (4, 56), (4, 57), (4, 58), (1, 2), (4, 80), (4, 82), (0, 28), (4, 19), (4, 21), (0, 24), (4, 60), (4, 62), (0, 25), (4, 8), (4, 4)] (by decide +kernel) (by decide +kernel)) (gj_app lg_wsX90 (gj_app lg_wsX20 (gj_app lg_mwX9_refuse (gj_app lg_mwX0_docAt (gj_app lg_mwX9_admittingPatterns (gj_app lg_mwX9_answer lg_mwX9_fittingPatterns))))))))
set_option maxRecDepth 20000 in
theorem lg_mwX10_isDocm : GoodIn lw_tbl mwX10_isDocm := (gj_cons ⟨mem_c (6, 103) (by decide +kernel), good_of_word (by decide +kernel)⟩ (gj_app (goodIn_c _ [(5, 58)] (by decide +kernel) (by decide +kernel)) lg_wsX100))
set_option maxRecDepth 20000 in
theorem lg_mwX10_opensm : GoodIn lw_tbl mwX10_opensm := (gj_cons ⟨mem_c (6, 119) (by decide +kernel), good_of_word (by decide +kernel)⟩ (gj_app (goodIn_c _ [(5, 81), (5, 80), (5, 79), (5, 82), (6, 123), (6, 127), (5, 73), (5, 74), (5, 75), (5, 78), (6, 124), (6, 126), (0, 62), (1, 10), (6, 131), (6, 135), (5, 58), (6, 132), (6, 134), (0, 64), (6, 139), (6, 147), (5, 77), (5, 76), (6, 148), (6, 144), (6, 146), (0, 67), (6, 143), (6, 140), (6, 142), (0, 66), (6, 136), (6, 138), (0, 65), (6, 128), (6, 130), (0, 63), (6, 120), (6, 122), (0, 61)] (by decide +kernel) (by decide +kernel)) lg_wsX100))
set_option maxRecDepth 20000 in
theorem lg_mwX10_walksBranchm : GoodIn lw_tbl mwX10_walksBranchm := (gj_cons ⟨mem_c (7, 52) (by decide +kernel), good_of_word (by decide +kernel)⟩ (gj_app (goodIn_c _ [(5, 93), (5, 94), (5, 95), (5, 96), (5, 97), (5, 74), (7, 48), (6, 55), (6, 53), (6, 54), (1, 10), (5, 98), (7, 45), (7, 47), (0, 93), (6, 227), (1, 139), (1, 8), (1, 140), (5, 75)] (by decide +kernel) (by decide +kernel)) lg_wsX100))
set_option maxRecDepth 20000 in
theorem lg_mwX10_walksItemm : GoodIn lw_tbl mwX10_walksItemm := (gj_cons ⟨mem_c (7, 44) (by decide +kernel), good_of_word (by decide +kernel)⟩ (gj_app (goodIn_c _ [(5, 78), (5, 93), (5, 94), (5, 95), (5, 96), (5, 97), (7, 48), (6, 55), (6, 53), (6, 54), (1, 10), (5, 98), (7, 45), (7, 47), (0, 93)] (by decide +kernel) (by decide +kernel)) lg_wsX100))
set_option maxRecDepth 20000 in
theorem lg_mwX10_walksPatternm : GoodIn lw_tbl mwX10_walksPatternm := (gj_cons ⟨mem_c (7, 56) (by decide +kernel), good_of_word (by decide +kernel)⟩ (gj_app (goodIn_c _ [(5, 93), (5, 94), (5, 95), (5, 96), (5, 74), (5, 97), (7, 57), (2, 89), (1, 8), (2, 90), (6, 227), (1, 139), (1, 140), (5, 75)] (by decide +kernel) (by decide +kernel)) lg_wsX100))
set_option maxRecDepth 20000 in
theorem lg_mwX10_walksmS : GoodIn lw_tbl mwX10_walksmS := (gj_cons ⟨mem_c (7, 40) (by decide +kernel), good_of_word (by decide +kernel)⟩ (gj_app (goodIn_c _ [(5, 74), (5, 73), (5, 93), (5, 94), (5, 77), (5, 95), (5, 96), (5, 97), (5, 98), (5, 99), (5, 76)] (by decide +kernel) (by decide +kernel)) lg_wsX100))
set_option maxRecDepth 20000 in
theorem lg_wgU_walks : GoodIn lw_tbl wgU_walks := (gj_app (goodIn_c _ [(7, 40), (7, 52), (7, 44), (7, 56), (5, 73), (5, 74), (5, 75), (1, 10), (7, 39), (7, 51), (7, 43), (7, 55), (7, 37), (7, 41), (7, 49), (7, 53), (0, 91), (0, 94), (0, 92), (0, 95)] (by decide +kernel) (by decide +kernel)) (gj_app lg_wsX100 (gj_app lg_mwX10_walksBranchm (gj_app lg_mwX10_walksItemm (gj_app lg_mwX10_walksPatternm lg_mwX10_walksmS)))))
set_option maxRecDepth 20000 in
theorem lg_mwg_X10_walksP : GoodIn lw_tbl mwg_X10_walksP := (gj_cons ⟨mem_c (7, 40) (by decide +kernel), good_of_word (by decide +kernel)⟩ lg_wgU_walks)
set_option maxRecDepth 20000 in
theorem lg_mwX10_matchesm : GoodIn lw_tbl mwX10_matchesm := (gj_cons ⟨mem_c (7, 36) (by decide +kernel), good_of_word (by decide +kernel)⟩ (gj_app (goodIn_c _ [(6, 116), (6, 118), (0, 60), (1, 10), (5, 100), (7, 37), (7, 39), (0, 91)] (by decide +kernel) (by decide +kernel)) (gj_app lg_wsX100 (gj_app lg_mwX10_opensm lg_mwg_X10_walksP))))
set_option maxRecDepth 20000 in
theorem lg_mwX10_hasm : GoodIn lw_tbl mwX10_hasm := (gj_cons ⟨mem_c (6, 55) (by decide +kernel), good_of_word (by decide +kernel)⟩ (fun w h => absurd h List.not_mem_nil))
set_option maxRecDepth 20000 in
theorem lg_mwX10_goesOnm : GoodIn lw_tbl mwX10_goesOnm := (gj_cons ⟨mem_c (7, 69) (by decide +kernel), good_of_word (by decide +kernel)⟩ (gj_app (goodIn_c _ [(5, 82), (6, 53), (6, 54), (1, 10), (5, 99), (5, 98)] (by decide +kernel) (by decide +kernel)) (gj_app lg_wsX100 lg_mwX10_hasm)))
set_option maxRecDepth 20000 in
theorem lg_mwX10_longestm : GoodIn lw_tbl mwX10_longestm := (gj_cons ⟨mem_c (7, 65) (by decide +kernel), good_of_word (by decide +kernel)⟩ (gj_app (goodIn_c _ [(5, 93), (5, 100), (6, 80), (6, 82), (0, 52), (1, 10), (6, 92), (6, 94), (0, 55), (7, 66), (7, 68), (0, 98), (5, 95), (5, 94)] (by decide +kernel) (by decide +kernel)) (gj_app lg_wsX100 (gj_app lg_mwX10_sizeOfm (gj_app lg_mwX10_atm lg_mwX10_goesOnm)))))
set_option maxRecDepth 20000 in
theorem lg_mwX10_firstMatchm : GoodIn lw_tbl mwX10_firstMatchm := (gj_cons ⟨mem_c (7, 61) (by decide +kernel), good_of_word (by decide +kernel)⟩ (gj_app (goodIn_c _ [(6, 80), (6, 82), (0, 52), (1, 10), (7, 62), (7, 64), (0, 97)] (by decide +kernel) (by decide +kernel)) (gj_app lg_mwX10_sizeOfm lg_mwX10_longestm)))
set_option maxRecDepth 20000 in
theorem lg_mwX10_fittingm : GoodIn lw_tbl mwX10_fittingm := (gj_cons ⟨mem_c (7, 32) (by decide +kernel), good_of_word (by decide +kernel)⟩ (gj_app (goodIn_c _ [(7, 33), (7, 35), (0, 90), (1, 10), (5, 58), (7, 58), (7, 60), (0, 96)] (by decide +kernel) (by decide +kernel)) (gj_app lg_wsX100 (gj_app lg_mwX10_matchesm lg_mwX10_firstMatchm))))
set_option maxRecDepth 20000 in
theorem lg_mwX10_newSetm : GoodIn lw_tbl mwX10_newSetm := (gj_cons ⟨mem_c (6, 152) (by decide +kernel), good_of_word (by decide +kernel)⟩ (gj_app (goodIn_c _ [(5, 84), (5, 85)] (by decide +kernel) (by decide +kernel)) lg_wsX100))
set_option maxRecDepth 20000 in
theorem lg_mwX10_newNeedm : GoodIn lw_tbl mwX10_newNeedm := (gj_cons ⟨mem_c (6, 156) (by decide +kernel), good_of_word (by decide +kernel)⟩ (gj_app (goodIn_c _ [(5, 89), (6, 160), (5, 88), (5, 86), (6, 157), (6, 159), (0, 70), (1, 10)] (by decide +kernel) (by decide +kernel)) lg_wsX100))
set_option maxRecDepth 20000 in
theorem lg_mwX10_addsRowm : GoodIn lw_tbl mwX10_addsRowm := (gj_cons ⟨mem_c (6, 179) (by decide +kernel), good_of_word (by decide +kernel)⟩ (gj_app (goodIn_c _ [(5, 84), (5, 83)] (by decide +kernel) (by decide +kernel)) lg_wsX100))
set_option maxRecDepth 20000 in
theorem lg_mwX10_bothm : GoodIn lw_tbl mwX10_bothm := (gj_cons ⟨mem_c (6, 216) (by decide +kernel), good_of_word (by decide +kernel)⟩ (gj_app (goodIn_c _ [(5, 90), (5, 88), (6, 202), (5, 91), (5, 87), (6, 208), (6, 206), (6, 207), (1, 10), (6, 205), (6, 203), (6, 204), (6, 199), (6, 201), (0, 77), (6, 212), (5, 86), (6, 209), (6, 211), (0, 78), (6, 219), (6, 217), (6, 218)] (by decide +kernel) (by decide +kernel)) lg_wsX100))
set_option maxRecDepth 20000 in
theorem lg_mwX10_copiesNeedm : GoodIn lw_tbl mwX10_copiesNeedm := (gj_cons ⟨mem_c (7, 2) (by decide +kernel), good_of_word (by decide +kernel)⟩ (gj_app (goodIn_c _ [(5, 88), (5, 86), (6, 208), (6, 206), (6, 207), (1, 10)] (by decide +kernel) (by decide +kernel)) lg_wsX100))
set_option maxRecDepth 20000 in
theorem lg_mwX10_copiesSetm : GoodIn lw_tbl mwX10_copiesSetm := (gj_cons ⟨mem_c (6, 234) (by decide +kernel), good_of_word (by decide +kernel)⟩ (gj_app (goodIn_c _ [(5, 84), (5, 83)] (by decide +kernel) (by decide +kernel)) lg_wsX100))
set_option maxRecDepth 20000 in
theorem lg_mwX10_crossesm : GoodIn lw_tbl mwX10_crossesm := (gj_cons ⟨mem_c (6, 223) (by decide +kernel), good_of_word (by decide +kernel)⟩ (gj_app (goodIn_c _ [(5, 84), (5, 83), (6, 175), (6, 173), (6, 174), (1, 10), (6, 230), (6, 194), (6, 195), (6, 192), (6, 193), (6, 171), (6, 172), (6, 169), (6, 170), (6, 228), (6, 229), (6, 179), (6, 176), (6, 178), (0, 73), (6, 226), (6, 227), (1, 139), (1, 8), (1, 140), (6, 224), (6, 225)] (by decide +kernel) (by decide +kernel)) lg_wsX100))
set_option maxRecDepth 20000 in
theorem lg_mwX10_eitherm : GoodIn lw_tbl mwX10_eitherm := (gj_cons ⟨mem_c (7, 6) (by decide +kernel), good_of_word (by decide +kernel)⟩ (gj_app (goodIn_c _ [(5, 90), (5, 88), (6, 202), (5, 91), (5, 87), (6, 208), (6, 206), (6, 207), (1, 10), (6, 205), (6, 203), (6, 204), (6, 199), (6, 201), (0, 77), (6, 212), (5, 86), (6, 209), (6, 211), (0, 78), (6, 160), (6, 157), (6, 159), (0, 70)] (by decide +kernel) (by decide +kernel)) lg_wsX100))
set_option maxRecDepth 20000 in
theorem lg_mwX10_ofRowsm : GoodIn lw_tbl mwX10_ofRowsm := (gj_cons ⟨mem_c (6, 191) (by decide +kernel), good_of_word (by decide +kernel)⟩ (gj_app (goodIn_c _ [(5, 90), (5, 84), (6, 202), (5, 91), (5, 87), (6, 208), (6, 206), (6, 207), (1, 10), (6, 205), (6, 203), (6, 204), (6, 199), (6, 201), (0, 77), (6, 212), (5, 88), (5, 86), (6, 209), (6, 211), (0, 78), (5, 83), (6, 175), (6, 173), (6, 174), (6, 194), (6, 195), (6, 192), (6, 193), (6, 198), (6, 196), (6, 197)] (by decide +kernel) (by decide +kernel)) lg_wsX100))
set_option maxRecDepth 20000 in
theorem lg_mwX10_oneEmptym : GoodIn lw_tbl mwX10_oneEmptym := (gj_cons ⟨mem_c (6, 160) (by decide +kernel), good_of_word (by decide +kernel)⟩ (gj_app (goodIn_c _ [(5, 88), (5, 86)] (by decide +kernel) (by decide +kernel)) lg_wsX100))
set_option maxRecDepth 20000 in
theorem lg_mwX10_worksOutmS : GoodIn lw_tbl mwX10_worksOutmS := (gj_cons ⟨mem_c (6, 164) (by decide +kernel), good_of_word (by decide +kernel)⟩ (gj_app (goodIn_c _ [(5, 73), (6, 168), (5, 84), (6, 160), (5, 88), (5, 86), (6, 157), (6, 159), (0, 70), (1, 10), (5, 76), (6, 55), (6, 53), (6, 54), (6, 171), (6, 172), (6, 175), (6, 173), (6, 174), (6, 169), (6, 170), (6, 179), (5, 83), (6, 176), (6, 178), (0, 73), (6, 165), (6, 167), (0, 72)] (by decide +kernel) (by decide +kernel)) lg_wsX100))
set_option maxRecDepth 20000 in
theorem lg_wgU_works : GoodIn lw_tbl wgU_works := (gj_app (goodIn_c _ [(6, 187), (6, 183), (6, 164), (6, 238), (5, 85), (5, 73), (5, 89), (5, 74), (5, 75), (5, 78), (5, 83), (5, 84), (1, 10), (6, 178), (6, 215), (7, 1), (6, 233), (6, 222), (7, 5), (6, 155), (6, 151), (6, 190), (6, 159), (6, 186), (6, 182), (6, 163), (6, 237), (6, 176), (6, 157), (6, 180), (6, 184), (6, 235), (6, 161), (6, 149), (6, 153), (6, 188), (6, 213), (6, 220), (6, 231), (6, 239), (7, 3), (0, 73), (0, 79), (0, 83), (0, 81), (0, 80), (0, 84), (0, 69), (0, 68), (0, 76), (0, 70), (0, 75), (0, 74), (0, 71), (0, 82)] (by decide +kernel) (by decide +kernel)) (gj_app lg_wsX100 (gj_app lg_mwX10_addsRowm (gj_app lg_mwX10_bothm (gj_app lg_mwX10_copiesNeedm (gj_app lg_mwX10_copiesSetm (gj_app lg_mwX10_crossesm (gj_app lg_mwX10_eitherm (gj_app lg_mwX10_newNeedm (gj_app lg_mwX10_newSetm (gj_app lg_mwX10_ofRowsm (gj_app lg_mwX10_oneEmptym lg_mwX10_worksOutmS))))))))))))
set_option maxRecDepth 20000 in
theorem lg_mwg_X10_worksOutP : GoodIn lw_tbl mwg_X10_worksOutP := (gj_cons ⟨mem_c (6, 164) (by decide +kernel), good_of_word (by decide +kernel)⟩ lg_wgU_works)
set_option maxRecDepth 20000 in
theorem lg_mwX10_isAhead_m : GoodIn lw_tbl mwX10_isAhead_m := (gj_cons ⟨mem_c (7, 16) (by decide +kernel), good_of_word (by decide +kernel)⟩ (goodIn_c _ [(6, 175), (6, 173), (6, 174), (1, 10), (6, 194), (6, 195), (6, 192), (6, 193)] (by decide +kernel) (by decide +kernel)))
set_option maxRecDepth 20000 in
theorem lg_mwX10_isAheadm : GoodIn lw_tbl mwX10_isAheadm := (gj_cons ⟨mem_c (7, 9) (by decide +kernel), good_of_word (by decide +kernel)⟩ (fun w h => absurd h List.not_mem_nil))
set_option maxRecDepth 20000 in
theorem lg_mwX10_swapsNeedm : GoodIn lw_tbl mwX10_swapsNeedm := (gj_cons ⟨mem_c (7, 13) (by decide +kernel), good_of_word (by decide +kernel)⟩ (gj_app (goodIn_c _ [(5, 86)] (by decide +kernel) (by decide +kernel)) lg_wsX100))
set_option maxRecDepth 20000 in
theorem lg_mwX10_needsOfm : GoodIn lw_tbl mwX10_needsOfm := (gj_cons ⟨mem_c (6, 115) (by decide +kernel), good_of_word (by decide +kernel)⟩ (gj_app (goodIn_c _ [(6, 116), (6, 118), (0, 60), (1, 10), (5, 85), (5, 89), (6, 149), (6, 151), (0, 68), (6, 153), (6, 155), (0, 69), (6, 161), (6, 163), (0, 71), (5, 92), (5, 88), (5, 84), (5, 83), (7, 14), (7, 15), (5, 86), (7, 7), (7, 8), (7, 10), (7, 12), (0, 85)] (by decide +kernel) (by decide +kernel)) (gj_app lg_wsX100 (gj_app lg_mwX10_opensm (gj_app lg_mwX10_newSetm (gj_app lg_mwX10_newNeedm (gj_app lg_mwg_X10_worksOutP (gj_app lg_mwX10_isAhead_m (gj_app lg_mwX10_isAheadm lg_mwX10_swapsNeedm)))))))))
set_option maxRecDepth 20000 in
theorem lg_mwX10_standsm : GoodIn lw_tbl mwX10_standsm := (gj_cons ⟨mem_c (7, 28) (by decide +kernel), good_of_word (by decide +kernel)⟩ (gj_app (goodIn_c _ [(6, 80), (6, 82), (0, 52), (1, 10), (6, 88), (6, 90), (0, 54)] (by decide +kernel) (by decide +kernel)) (gj_app lg_mwX10_sizeOfm lg_mwX10_tripleAtm)))
set_option maxRecDepth 20000 in
theorem lg_mwX10_listOfm : GoodIn lw_tbl mwX10_listOfm := (gj_cons ⟨mem_c (7, 24) (by decide +kernel), good_of_word (by decide +kernel)⟩ (gj_app (goodIn_c _ [(5, 58), (7, 25), (7, 27), (0, 88), (1, 10)] (by decide +kernel) (by decide +kernel)) (gj_app lg_wsX100 lg_mwX10_standsm)))
set_option maxRecDepth 20000 in
theorem lg_mwX10_candidatesOfm : GoodIn lw_tbl mwX10_candidatesOfm := (gj_cons ⟨mem_c (7, 20) (by decide +kernel), good_of_word (by decide +kernel)⟩ (gj_app (goodIn_c _ [(5, 101), (5, 58), (5, 102), (6, 53), (6, 54), (1, 10), (7, 21), (7, 23), (0, 87)] (by decide +kernel) (by decide +kernel)) (gj_app lg_wsX100 (gj_app lg_mwX10_hasm lg_mwX10_listOfm))))
set_option maxRecDepth 20000 in
theorem lg_mwX10_candidatesm : GoodIn lw_tbl mwX10_candidatesm := (gj_cons ⟨mem_c (6, 111) (by decide +kernel), good_of_word (by decide +kernel)⟩ (gj_app (goodIn_c _ [(6, 112), (6, 114), (0, 59), (1, 10), (5, 101), (5, 88), (5, 86), (7, 17), (7, 19), (0, 86)] (by decide +kernel) (by decide +kernel)) (gj_app lg_wsX100 (gj_app lg_mwX10_needsOfm lg_mwX10_candidatesOfm))))
set_option maxRecDepth 20000 in
theorem lg_mwX10_patternsOfm : GoodIn lw_tbl mwX10_patternsOfm := (gj_cons ⟨mem_c (6, 107) (by decide +kernel), good_of_word (by decide +kernel)⟩ (gj_app (goodIn_c _ [(5, 58), (7, 29), (7, 31), (0, 89), (1, 10), (6, 53), (6, 54), (6, 108), (6, 110), (0, 58)] (by decide +kernel) (by decide +kernel)) (gj_app lg_wsX100 (gj_app lg_mwX10_fittingm (gj_app lg_mwX10_hasm lg_mwX10_candidatesm)))))
set_option maxRecDepth 20000 in
theorem lg_mwX10_documentm : GoodIn lw_tbl mwX10_documentm := (gj_cons ⟨mem_c (6, 99) (by decide +kernel), good_of_word (by decide +kernel)⟩ (gj_app (goodIn_c _ [(5, 219), (5, 220), (1, 10), (6, 100), (6, 102), (0, 56), (6, 104), (6, 106), (0, 57), (6, 60), (6, 62), (0, 50), (6, 84), (6, 86), (0, 53), (6, 80), (6, 82), (0, 52), (5, 222), (5, 224), (0, 33)] (by decide +kernel) (by decide +kernel)) (gj_app lg_mwX10_isFromm (gj_app lg_mwX10_isDocm (gj_app lg_mwX10_patternsOfm (gj_app lg_mwX10_givesm (gj_app lg_mwX10_unlikem (gj_app lg_mwX10_sizeOfm lg_mwX10_refusem))))))))
set_option maxRecDepth 20000 in
theorem lg_mwX9_letter : GoodIn lw_tbl mwX9_letter := (gj_cons ⟨mem_c (4, 110) (by decide +kernel), good_of_word (by decide +kernel)⟩ (gj_app (goodIn_c _ [(2, 16), (4, 56), (4, 57), (4, 58), (1, 2), (2, 76), (2, 78), (0, 1), (1, 1), (4, 4), (4, 19), (4, 21), (0, 24)] (by decide +kernel) (by decide +kernel)) (gj_app lg_wsX90 (gj_app lg_wsX20 (gj_app lg_mwX0_docAt (gj_app lg_mwX9_refuse lg_mwX9_answer))))))
set_option maxRecDepth 20000 in
theorem lg_mwX10_letterm : GoodIn lw_tbl mwX10_letterm := (gj_cons ⟨mem_c (7, 73) (by decide +kernel), good_of_word (by decide +kernel)⟩ (gj_app (goodIn_c _ [(6, 100), (6, 102), (0, 56), (1, 10), (6, 80), (6, 82), (0, 52), (5, 222), (5, 224), (0, 33), (6, 92), (6, 94), (0, 55), (6, 60), (6, 62), (0, 50)] (by decide +kernel) (by decide +kernel)) (gj_app lg_mwX10_isDocm (gj_app lg_mwX10_sizeOfm (gj_app lg_mwX10_refusem (gj_app lg_mwX10_atm lg_mwX10_givesm))))))
set_option maxRecDepth 20000 in
theorem lg_mwX5_choices : GoodIn lw_tbl mwX5_choices := (gj_cons ⟨mem_c (4, 91) (by decide +kernel), good_of_word (by decide +kernel)⟩ (gj_app (goodIn_c _ [(3, 189)] (by decide +kernel) (by decide +kernel)) lg_wsX50))
set_option maxRecDepth 20000 in
theorem lg_mwX9_pattern : GoodIn lw_tbl mwX9_pattern := (gj_cons ⟨mem_c (4, 114) (by decide +kernel), good_of_word (by decide +kernel)⟩ (gj_app (goodIn_c _ [(2, 76), (2, 78), (0, 1), (1, 1), (2, 16), (4, 64), (4, 65), (4, 66), (1, 2), (3, 172), (4, 19), (4, 21), (0, 24), (3, 182), (4, 115), (4, 89), (4, 90), (1, 20), (3, 185), (3, 187), (3, 176), (3, 178), (3, 191), (3, 174)] (by decide +kernel) (by decide +kernel)) (gj_app lg_wsX90 (gj_app lg_wsX50 (gj_app lg_mwX9_refuse (gj_app lg_mwX0_patternAt2 (gj_app lg_mwX9_answer lg_mwX5_choices)))))))
set_option maxRecDepth 20000 in
theorem lg_mwX10_isPatternm : GoodIn lw_tbl mwX10_isPatternm := (gj_cons ⟨mem_c (7, 81) (by decide +kernel), good_of_word (by decide +kernel)⟩ (gj_app (goodIn_c _ [(5, 58)] (by decide +kernel) (by decide +kernel)) lg_wsX100))
set_option maxRecDepth 20000 in
theorem lg_mwX10_addsmT : GoodIn lw_tbl mwX10_addsmT := (gj_cons ⟨mem_c (6, 198) (by decide +kernel), good_of_word (by decide +kernel)⟩ (fun w h => absurd h List.not_mem_nil))
set_option maxRecDepth 20000 in
theorem lg_mwX10_layTriplesm : GoodIn lw_tbl mwX10_layTriplesm := (gj_cons ⟨mem_c (7, 85) (by decide +kernel), good_of_word (by decide +kernel)⟩ (gj_app (goodIn_c _ [(5, 104), (5, 88), (5, 86), (6, 196), (6, 197), (1, 10)] (by decide +kernel) (by decide +kernel)) (gj_app lg_wsX100 lg_mwX10_addsmT)))
set_option maxRecDepth 20000 in
theorem lg_mwX10_patternm : GoodIn lw_tbl mwX10_patternm := (gj_cons ⟨mem_c (7, 77) (by decide +kernel), good_of_word (by decide +kernel)⟩ (gj_app (goodIn_c _ [(5, 219), (5, 220), (1, 10), (7, 78), (7, 80), (0, 99), (6, 112), (6, 114), (0, 59), (7, 33), (7, 35), (0, 90), (5, 58), (6, 60), (6, 62), (0, 50), (5, 82), (5, 88), (5, 92), (5, 84), (5, 93), (5, 100), (5, 96), (7, 82), (7, 84), (0, 100), (5, 97), (5, 222), (5, 224), (0, 33)] (by decide +kernel) (by decide +kernel)) (gj_app lg_wsX100 (gj_app lg_mwX10_isFromm (gj_app lg_mwX10_isPatternm (gj_app lg_mwX10_needsOfm (gj_app lg_mwX10_matchesm (gj_app lg_mwX10_givesm (gj_app lg_mwX10_layTriplesm lg_mwX10_refusem)))))))))
set_option maxRecDepth 20000 in
theorem lg_mwX9_sign : GoodIn lw_tbl mwX9_sign := (gj_cons ⟨mem_c (4, 119) (by decide +kernel), good_of_word (by decide +kernel)⟩ (gj_app (goodIn_c _ [(2, 16), (4, 64), (4, 65), (4, 66), (1, 2), (2, 76), (2, 78), (0, 1), (1, 1), (3, 172), (4, 19), (4, 21), (0, 24)] (by decide +kernel) (by decide +kernel)) (gj_app lg_wsX90 (gj_app lg_wsX50 (gj_app lg_mwX0_patternAt2 (gj_app lg_mwX9_refuse lg_mwX9_answer))))))
set_option maxRecDepth 20000 in
theorem lg_mwX10_signm : GoodIn lw_tbl mwX10_signm := (gj_cons ⟨mem_c (7, 89) (by decide +kernel), good_of_word (by decide +kernel)⟩ (gj_app (goodIn_c _ [(7, 78), (7, 80), (0, 99), (1, 10), (5, 58), (5, 222), (5, 224), (0, 33), (6, 60), (6, 62), (0, 50)] (by decide +kernel) (by decide +kernel)) (gj_app lg_wsX100 (gj_app lg_mwX10_isPatternm (gj_app lg_mwX10_refusem lg_mwX10_givesm)))))
set_option maxRecDepth 20000 in
theorem lg_mwX7_lettersOf : GoodIn lw_tbl mwX7_lettersOf := (gj_cons ⟨mem_c (2, 233) (by decide +kernel), good_of_word (by decide +kernel)⟩ (goodIn_c _ [(2, 236), (2, 239), (3, 0), (2, 237), (2, 238), (1, 19), (2, 234), (2, 235), (1, 18)] (by decide +kernel) (by decide +kernel)))
set_option maxRecDepth 20000 in
theorem lg_mwX7_letterOf : GoodIn lw_tbl mwX7_letterOf := (gj_cons ⟨mem_c (3, 3) (by decide +kernel), good_of_word (by decide +kernel)⟩ (goodIn_c _ [(3, 4)] (by decide +kernel) (by decide +kernel)))
set_option maxRecDepth 20000 in
theorem lg_mwX9_exact : GoodIn lw_tbl mwX9_exact := (gj_cons ⟨mem_c (4, 123) (by decide +kernel), good_of_word (by decide +kernel)⟩ (gj_app (goodIn_c _ [(2, 76), (2, 78), (0, 1), (1, 1), (2, 16), (4, 64), (4, 65), (4, 66), (1, 2), (3, 187), (4, 124), (2, 232), (1, 6), (4, 125), (3, 2), (4, 19), (4, 21), (0, 24)] (by decide +kernel) (by decide +kernel)) (gj_app lg_wsX90 (gj_app lg_wsX50 (gj_app lg_mwX9_refuse (gj_app lg_mwX0_patternAt2 (gj_app lg_mwX7_lettersOf (gj_app lg_mwX7_letterOf lg_mwX9_answer))))))))
set_option maxRecDepth 20000 in
theorem lg_mwX10_longOfm : GoodIn lw_tbl mwX10_longOfm := (gj_cons ⟨mem_c (6, 175) (by decide +kernel), good_of_word (by decide +kernel)⟩ (fun w h => absurd h List.not_mem_nil))
set_option maxRecDepth 20000 in
theorem lg_mwX10_letterInm : GoodIn lw_tbl mwX10_letterInm := (gj_cons ⟨mem_c (6, 194) (by decide +kernel), good_of_word (by decide +kernel)⟩ (goodIn_c _ [(6, 195)] (by decide +kernel) (by decide +kernel)))
set_option maxRecDepth 20000 in
theorem lg_mwX10_exactm : GoodIn lw_tbl mwX10_exactm := (gj_cons ⟨mem_c (7, 93) (by decide +kernel), good_of_word (by decide +kernel)⟩ (gj_app (goodIn_c _ [(5, 222), (5, 224), (0, 33), (1, 10), (7, 78), (7, 80), (0, 99), (6, 112), (6, 114), (0, 59), (5, 92), (5, 84), (5, 83), (6, 173), (6, 174), (6, 192), (6, 193), (6, 60), (6, 62), (0, 50)] (by decide +kernel) (by decide +kernel)) (gj_app lg_wsX100 (gj_app lg_mwX10_refusem (gj_app lg_mwX10_isPatternm (gj_app lg_mwX10_needsOfm (gj_app lg_mwX10_longOfm (gj_app lg_mwX10_letterInm lg_mwX10_givesm))))))))
set_option maxRecDepth 20000 in
theorem lg_mwX5_sizeOf : GoodIn lw_tbl mwX5_sizeOf := (gj_cons ⟨mem_c (4, 95) (by decide +kernel), good_of_word (by decide +kernel)⟩ (gj_app (goodIn_c _ [(3, 189)] (by decide +kernel) (by decide +kernel)) lg_wsX50))
set_option maxRecDepth 20000 in
theorem lg_mwX5_tripleAt : GoodIn lw_tbl mwX5_tripleAt := (gj_cons ⟨mem_c (4, 100) (by decide +kernel), good_of_word (by decide +kernel)⟩ (gj_app (goodIn_c _ [(3, 189), (3, 188)] (by decide +kernel) (by decide +kernel)) lg_wsX50))
set_option maxRecDepth 20000 in
theorem lg_mwX9_need : GoodIn lw_tbl mwX9_need := (gj_cons ⟨mem_c (4, 129) (by decide +kernel), good_of_word (by decide +kernel)⟩ (gj_app (goodIn_c _ [(2, 76), (2, 78), (0, 1), (1, 1), (2, 16), (4, 64), (4, 65), (4, 66), (1, 2), (4, 115), (4, 89), (4, 90), (1, 20), (4, 130), (4, 93), (4, 94), (4, 131), (4, 98), (4, 99), (4, 19), (4, 21), (0, 24)] (by decide +kernel) (by decide +kernel)) (gj_app lg_wsX90 (gj_app lg_mwX9_refuse (gj_app lg_mwX0_patternAt2 (gj_app lg_mwX5_choices (gj_app lg_mwX5_sizeOf (gj_app lg_mwX5_tripleAt lg_mwX9_answer))))))))
set_option maxRecDepth 20000 in
theorem lg_mwX10_needm : GoodIn lw_tbl mwX10_needm := (gj_cons ⟨mem_c (7, 97) (by decide +kernel), good_of_word (by decide +kernel)⟩ (gj_app (goodIn_c _ [(5, 222), (5, 224), (0, 33), (1, 10), (7, 78), (7, 80), (0, 99), (6, 112), (6, 114), (0, 59), (5, 88), (5, 86), (6, 60), (6, 62), (0, 50)] (by decide +kernel) (by decide +kernel)) (gj_app lg_wsX100 (gj_app lg_mwX10_refusem (gj_app lg_mwX10_isPatternm (gj_app lg_mwX10_needsOfm lg_mwX10_givesm))))))
set_option maxRecDepth 20000 in
theorem lg_mwX9_isTriple : GoodIn lw_tbl mwX9_isTriple := (gj_cons ⟨mem_c (4, 138) (by decide +kernel), good_of_word (by decide +kernel)⟩ (fun w h => absurd h List.not_mem_nil))
set_option maxRecDepth 20000 in
theorem lg_mwX0_listBits : GoodIn lw_tbl mwX0_listBits := (gj_cons ⟨mem_c (4, 46) (by decide +kernel), good_of_word (by decide +kernel)⟩ (gj_app (gj_app (goodIn_c _ [(1, 40), (4, 50), (4, 6), (4, 47), (4, 48), (4, 49), (1, 21)] (by decide +kernel) (by decide +kernel)) lg_wsX00) lg_wsX20))
set_option maxRecDepth 20000 in
theorem lg_mwJ6_bitCount_0f7a4 : GoodIn lw_tbl mwJ6_bitCount_0f7a4 := (gj_cons ⟨mem_c (3, 78) (by decide +kernel), good_of_word (by decide +kernel)⟩ (goodIn_c _ [(3, 79), (3, 80), (3, 81)] (by decide +kernel) (by decide +kernel)))
set_option maxRecDepth 20000 in
theorem lg_mwJ6_numberOfTrailingZeros_0f7a4 : GoodIn lw_tbl mwJ6_numberOfTrailingZeros_0f7a4 := (gj_cons ⟨mem_c (2, 239) (by decide +kernel), good_of_word (by decide +kernel)⟩ (goodIn_c _ [(3, 0)] (by decide +kernel) (by decide +kernel)))
set_option maxRecDepth 20000 in
theorem lg_mwX9_list : GoodIn lw_tbl mwX9_list := (gj_cons ⟨mem_c (4, 135) (by decide +kernel), good_of_word (by decide +kernel)⟩ (gj_app (goodIn_c _ [(4, 136), (4, 137), (1, 1), (2, 76), (2, 78), (0, 1), (2, 16), (4, 139), (4, 44), (4, 45), (1, 2), (4, 140), (3, 77), (1, 19), (4, 141), (2, 238), (4, 19), (4, 21), (0, 24)] (by decide +kernel) (by decide +kernel)) (gj_app lg_wsX90 (gj_app lg_mwX9_isTriple (gj_app lg_mwX9_refuse (gj_app lg_mwX0_listBits (gj_app lg_mwJ6_bitCount_0f7a4 (gj_app lg_mwJ6_numberOfTrailingZeros_0f7a4 lg_mwX9_answer))))))))
set_option maxRecDepth 20000 in
theorem lg_mwX10_listm : GoodIn lw_tbl mwX10_listm := (gj_cons ⟨mem_c (7, 101) (by decide +kernel), good_of_word (by decide +kernel)⟩ (gj_app (goodIn_c _ [(5, 219), (5, 220), (1, 10), (5, 222), (5, 224), (0, 33), (7, 21), (7, 23), (0, 87), (5, 58), (6, 53), (6, 54), (6, 60), (6, 62), (0, 50)] (by decide +kernel) (by decide +kernel)) (gj_app lg_wsX100 (gj_app lg_mwX10_isFromm (gj_app lg_mwX10_refusem (gj_app lg_mwX10_listOfm (gj_app lg_mwX10_hasm lg_mwX10_givesm)))))))
set_option maxRecDepth 20000 in
theorem lg_mwX2_timesOf : GoodIn lw_tbl mwX2_timesOf := (gj_cons ⟨mem_c (4, 149) (by decide +kernel), good_of_word (by decide +kernel)⟩ (gj_app (goodIn_c _ [(4, 2), (3, 233), (3, 231), (3, 232), (1, 21)] (by decide +kernel) (by decide +kernel)) lg_wsX20))
set_option maxRecDepth 20000 in
theorem lg_mwX9_often : GoodIn lw_tbl mwX9_often := (gj_cons ⟨mem_c (4, 145) (by decide +kernel), good_of_word (by decide +kernel)⟩ (gj_app (goodIn_c _ [(4, 136), (4, 137), (1, 1), (2, 16), (4, 56), (4, 57), (4, 58), (1, 2), (2, 76), (2, 78), (0, 1), (4, 146), (4, 147), (4, 148), (1, 21), (4, 19), (4, 21), (0, 24)] (by decide +kernel) (by decide +kernel)) (gj_app lg_wsX90 (gj_app lg_mwX9_isTriple (gj_app lg_mwX0_docAt (gj_app lg_mwX9_refuse (gj_app lg_mwX2_timesOf lg_mwX9_answer)))))))
set_option maxRecDepth 20000 in
theorem lg_mwX10_oftenm : GoodIn lw_tbl mwX10_oftenm := (gj_cons ⟨mem_c (7, 105) (by decide +kernel), good_of_word (by decide +kernel)⟩ (gj_app (goodIn_c _ [(5, 219), (5, 220), (1, 10), (6, 100), (6, 102), (0, 56), (6, 80), (6, 82), (0, 52), (6, 60), (6, 62), (0, 50), (6, 88), (6, 90), (0, 54), (5, 222), (5, 224), (0, 33)] (by decide +kernel) (by decide +kernel)) (gj_app lg_mwX10_isFromm (gj_app lg_mwX10_isDocm (gj_app lg_mwX10_sizeOfm (gj_app lg_mwX10_givesm (gj_app lg_mwX10_tripleAtm lg_mwX10_refusem)))))))
set_option maxRecDepth 20000 in
theorem lg_mwX9_fittingDocuments : GoodIn lw_tbl mwX9_fittingDocuments := (gj_cons ⟨mem_c (4, 157) (by decide +kernel), good_of_word (by decide +kernel)⟩ (gj_app (goodIn_c _ [(2, 16), (1, 42), (4, 56), (4, 57), (4, 58), (1, 2), (4, 68), (4, 69), (4, 70), (1, 20)] (by decide +kernel) (by decide +kernel)) (gj_app lg_wsX90 (gj_app lg_wsX00 (gj_app lg_mwX0_docAt lg_mwX5_fits)))))
set_option maxRecDepth 20000 in
theorem lg_mwX9_gate : GoodIn lw_tbl mwX9_gate := (gj_cons ⟨mem_c (4, 153) (by decide +kernel), good_of_word (by decide +kernel)⟩ (gj_app (goodIn_c _ [(2, 76), (2, 78), (0, 1), (1, 1), (2, 16), (4, 64), (4, 65), (4, 66), (1, 2), (2, 23), (4, 84), (4, 85), (4, 86), (1, 9), (2, 0), (4, 154), (4, 156), (0, 30), (4, 140), (3, 77), (1, 19), (4, 19), (4, 21), (0, 24), (2, 2)] (by decide +kernel) (by decide +kernel)) (gj_app lg_wsX90 (gj_app lg_wsX80 (gj_app lg_mwX9_refuse (gj_app lg_mwX0_patternAt2 (gj_app lg_mwX8_through (gj_app lg_mwX9_fittingDocuments (gj_app lg_mwJ6_bitCount_0f7a4 lg_mwX9_answer)))))))))
set_option maxRecDepth 20000 in
theorem lg_mwX10_onesm : GoodIn lw_tbl mwX10_onesm := (gj_cons ⟨mem_c (7, 112) (by decide +kernel), good_of_word (by decide +kernel)⟩ (gj_app (goodIn_c _ [(6, 53), (6, 54), (1, 10)] (by decide +kernel) (by decide +kernel)) lg_mwX10_hasm))
set_option maxRecDepth 20000 in
theorem lg_mwX10_gatem : GoodIn lw_tbl mwX10_gatem := (gj_cons ⟨mem_c (7, 109) (by decide +kernel), good_of_word (by decide +kernel)⟩ (gj_app (goodIn_c _ [(5, 219), (5, 220), (1, 10), (7, 78), (7, 80), (0, 99), (6, 108), (6, 110), (0, 58), (7, 29), (7, 31), (0, 89), (7, 110), (7, 111), (6, 60), (6, 62), (0, 50), (5, 101), (5, 222), (5, 224), (0, 33)] (by decide +kernel) (by decide +kernel)) (gj_app lg_wsX100 (gj_app lg_mwX10_isFromm (gj_app lg_mwX10_isPatternm (gj_app lg_mwX10_candidatesm (gj_app lg_mwX10_fittingm (gj_app lg_mwX10_onesm (gj_app lg_mwX10_givesm lg_mwX10_refusem)))))))))
set_option maxRecDepth 20000 in
theorem lg_mwX5_longestFrom : GoodIn lw_tbl mwX5_longestFrom := (gj_cons ⟨mem_c (4, 169) (by decide +kernel), good_of_word (by decide +kernel)⟩ (gj_app (gj_app (goodIn_c _ [(3, 175), (3, 179), (4, 5), (4, 79), (3, 183), (4, 76), (4, 78), (0, 27), (1, 20), (3, 180), (4, 75), (3, 181), (4, 72), (4, 74), (0, 26)] (by decide +kernel) (by decide +kernel)) lg_wsX50) lg_wsX20))
set_option maxRecDepth 20000 in
theorem lg_mwX5_firstMatchIn2 : GoodIn lw_tbl mwX5_firstMatchIn2 := (gj_cons ⟨mem_c (4, 174) (by decide +kernel), good_of_word (by decide +kernel)⟩ (gj_app (goodIn_c _ [(4, 5), (4, 166), (4, 167), (4, 168), (1, 20)] (by decide +kernel) (by decide +kernel)) (gj_app lg_wsX20 lg_mwX5_longestFrom)))
set_option maxRecDepth 20000 in
theorem lg_mwX5_matchesIn : GoodIn lw_tbl mwX5_matchesIn := (gj_cons ⟨mem_c (4, 165) (by decide +kernel), good_of_word (by decide +kernel)⟩ (gj_app (gj_app (goodIn_c _ [(4, 5), (4, 169), (3, 175), (3, 179), (4, 79), (3, 183), (4, 76), (4, 78), (0, 27), (1, 20), (3, 180), (4, 75), (3, 181), (4, 72), (4, 74), (0, 26), (4, 166), (4, 167), (4, 168), (4, 170), (1, 139), (1, 8), (1, 140)] (by decide +kernel) (by decide +kernel)) lg_wsX20) lg_wsX50))
set_option maxRecDepth 20000 in
theorem lg_mwX9_match : GoodIn lw_tbl mwX9_match := (gj_cons ⟨mem_c (4, 161) (by decide +kernel), good_of_word (by decide +kernel)⟩ (gj_app (goodIn_c _ [(2, 76), (2, 78), (0, 1), (1, 1), (2, 16), (4, 64), (4, 65), (4, 66), (1, 2), (4, 56), (4, 57), (4, 58), (4, 171), (4, 172), (4, 173), (1, 20), (4, 175), (4, 167), (4, 168), (4, 19), (4, 21), (0, 24), (4, 162), (4, 163), (4, 164)] (by decide +kernel) (by decide +kernel)) (gj_app lg_wsX90 (gj_app lg_mwX9_refuse (gj_app lg_mwX0_patternAt2 (gj_app lg_mwX0_docAt (gj_app lg_mwX5_firstMatchIn2 (gj_app lg_mwX5_longestFrom (gj_app lg_mwX9_answer lg_mwX5_matchesIn)))))))))
set_option maxRecDepth 20000 in
theorem lg_mwX10_matchManym : GoodIn lw_tbl mwX10_matchManym := (gj_cons ⟨mem_c (7, 120) (by decide +kernel), good_of_word (by decide +kernel)⟩ (gj_app (goodIn_c _ [(6, 80), (6, 82), (0, 52), (1, 10), (7, 58), (7, 60), (0, 96), (7, 62), (7, 64), (0, 97), (6, 227), (1, 139), (1, 8), (1, 140)] (by decide +kernel) (by decide +kernel)) (gj_app lg_mwX10_sizeOfm (gj_app lg_mwX10_firstMatchm lg_mwX10_longestm))))
set_option maxRecDepth 20000 in
theorem lg_mwX10_matchm : GoodIn lw_tbl mwX10_matchm := (gj_cons ⟨mem_c (7, 116) (by decide +kernel), good_of_word (by decide +kernel)⟩ (gj_app (goodIn_c _ [(5, 219), (5, 220), (1, 10), (7, 78), (7, 80), (0, 99), (5, 222), (5, 224), (0, 33), (6, 100), (6, 102), (0, 56), (7, 33), (7, 35), (0, 90), (7, 58), (7, 60), (0, 96), (7, 62), (7, 64), (0, 97), (6, 60), (6, 62), (0, 50), (7, 117), (7, 119), (0, 101)] (by decide +kernel) (by decide +kernel)) (gj_app lg_mwX10_isFromm (gj_app lg_mwX10_isPatternm (gj_app lg_mwX10_refusem (gj_app lg_mwX10_isDocm (gj_app lg_mwX10_matchesm (gj_app lg_mwX10_firstMatchm (gj_app lg_mwX10_longestm (gj_app lg_mwX10_givesm lg_mwX10_matchManym))))))))))
set_option maxRecDepth 20000 in
theorem lg_mwX5_aliveBehind : GoodIn lw_tbl mwX5_aliveBehind := (gj_cons ⟨mem_c (4, 183) (by decide +kernel), good_of_word (by decide +kernel)⟩ (gj_app (gj_app (goodIn_c _ [(4, 5), (3, 179), (4, 75), (3, 181), (4, 72), (4, 74), (0, 26), (1, 20), (4, 79), (3, 183), (4, 76), (4, 78), (0, 27)] (by decide +kernel) (by decide +kernel)) lg_wsX20) lg_wsX50))
set_option maxRecDepth 20000 in
theorem lg_mwX9_alive : GoodIn lw_tbl mwX9_alive := (gj_cons ⟨mem_c (4, 179) (by decide +kernel), good_of_word (by decide +kernel)⟩ (gj_app (goodIn_c _ [(2, 16), (4, 64), (4, 65), (4, 66), (1, 2), (4, 56), (4, 57), (4, 58), (2, 76), (2, 78), (0, 1), (1, 1), (4, 4), (4, 180), (4, 181), (4, 182), (1, 20), (4, 19), (4, 21), (0, 24)] (by decide +kernel) (by decide +kernel)) (gj_app lg_wsX90 (gj_app lg_wsX20 (gj_app lg_mwX0_patternAt2 (gj_app lg_mwX0_docAt (gj_app lg_mwX9_refuse (gj_app lg_mwX5_aliveBehind lg_mwX9_answer))))))))
set_option maxRecDepth 20000 in
theorem lg_mwX10_alivem : GoodIn lw_tbl mwX10_alivem := (gj_cons ⟨mem_c (7, 124) (by decide +kernel), good_of_word (by decide +kernel)⟩ (gj_app (goodIn_c _ [(7, 78), (7, 80), (0, 99), (1, 10), (5, 222), (5, 224), (0, 33), (6, 100), (6, 102), (0, 56), (6, 80), (6, 82), (0, 52), (7, 33), (7, 35), (0, 90), (6, 60), (6, 62), (0, 50), (6, 92), (6, 94), (0, 55), (5, 94), (5, 100), (7, 66), (7, 68), (0, 98)] (by decide +kernel) (by decide +kernel)) (gj_app lg_wsX100 (gj_app lg_mwX10_isPatternm (gj_app lg_mwX10_refusem (gj_app lg_mwX10_isDocm (gj_app lg_mwX10_sizeOfm (gj_app lg_mwX10_matchesm (gj_app lg_mwX10_givesm (gj_app lg_mwX10_atm lg_mwX10_goesOnm))))))))))
set_option maxRecDepth 20000 in
theorem lg_mwX9_rarest : GoodIn lw_tbl mwX9_rarest := (gj_cons ⟨mem_c (4, 187) (by decide +kernel), good_of_word (by decide +kernel)⟩ (gj_app (goodIn_c _ [(2, 16), (4, 64), (4, 65), (4, 66), (1, 2), (2, 76), (2, 78), (0, 1), (1, 1), (3, 191), (4, 19), (4, 21), (0, 24), (4, 139), (4, 44), (4, 45), (4, 140), (3, 77), (1, 19)] (by decide +kernel) (by decide +kernel)) (gj_app lg_wsX90 (gj_app lg_wsX50 (gj_app lg_mwX0_patternAt2 (gj_app lg_mwX9_refuse (gj_app lg_mwX9_answer (gj_app lg_mwX0_listBits lg_mwJ6_bitCount_0f7a4))))))))
set_option maxRecDepth 20000 in
theorem lg_mwX10_rarestm : GoodIn lw_tbl mwX10_rarestm := (gj_cons ⟨mem_c (7, 128) (by decide +kernel), good_of_word (by decide +kernel)⟩ (gj_app (goodIn_c _ [(7, 78), (7, 80), (0, 99), (1, 10), (6, 112), (6, 114), (0, 59), (7, 82), (7, 84), (0, 100), (5, 104), (6, 60), (6, 62), (0, 50), (7, 21), (7, 23), (0, 87), (7, 110), (7, 111), (5, 222), (5, 224), (0, 33)] (by decide +kernel) (by decide +kernel)) (gj_app lg_wsX100 (gj_app lg_mwX10_isPatternm (gj_app lg_mwX10_needsOfm (gj_app lg_mwX10_layTriplesm (gj_app lg_mwX10_givesm (gj_app lg_mwX10_listOfm (gj_app lg_mwX10_onesm lg_mwX10_refusem)))))))))
set_option maxRecDepth 20000 in
theorem lg_mwX5_hasChoiceWithin : GoodIn lw_tbl mwX5_hasChoiceWithin := (gj_cons ⟨mem_c (4, 195) (by decide +kernel), good_of_word (by decide +kernel)⟩ (gj_app (goodIn_c _ [(4, 91), (3, 189), (4, 196), (4, 89), (4, 90), (1, 20), (3, 188), (3, 15), (4, 197), (3, 14), (1, 7)] (by decide +kernel) (by decide +kernel)) lg_wsX50))
set_option maxRecDepth 20000 in
theorem lg_mwX9_within : GoodIn lw_tbl mwX9_within := (gj_cons ⟨mem_c (4, 191) (by decide +kernel), good_of_word (by decide +kernel)⟩ (gj_app (goodIn_c _ [(2, 16), (4, 64), (4, 65), (4, 66), (1, 2), (2, 76), (2, 78), (0, 1), (1, 1), (4, 115), (4, 89), (4, 90), (1, 20), (4, 19), (4, 21), (0, 24), (4, 192), (4, 193), (4, 194)] (by decide +kernel) (by decide +kernel)) (gj_app lg_wsX90 (gj_app lg_mwX0_patternAt2 (gj_app lg_mwX9_refuse (gj_app lg_mwX5_choices (gj_app lg_mwX9_answer lg_mwX5_hasChoiceWithin)))))))
set_option maxRecDepth 20000 in
theorem lg_mwX10_hasAllm : GoodIn lw_tbl mwX10_hasAllm := (gj_cons ⟨mem_c (6, 205) (by decide +kernel), good_of_word (by decide +kernel)⟩ (fun w h => absurd h List.not_mem_nil))
set_option maxRecDepth 20000 in
theorem lg_mwX10_laysm : GoodIn lw_tbl mwX10_laysm := (gj_cons ⟨mem_c (6, 208) (by decide +kernel), good_of_word (by decide +kernel)⟩ (fun w h => absurd h List.not_mem_nil))
set_option maxRecDepth 20000 in
theorem lg_mwX10_withinm : GoodIn lw_tbl mwX10_withinm := (gj_cons ⟨mem_c (7, 132) (by decide +kernel), good_of_word (by decide +kernel)⟩ (gj_app (goodIn_c _ [(7, 78), (7, 80), (0, 99), (1, 10), (5, 222), (5, 224), (0, 33), (6, 112), (6, 114), (0, 59), (5, 88), (6, 60), (6, 62), (0, 50), (5, 86), (5, 105), (6, 203), (6, 204), (6, 206), (6, 207)] (by decide +kernel) (by decide +kernel)) (gj_app lg_wsX100 (gj_app lg_mwX10_isPatternm (gj_app lg_mwX10_refusem (gj_app lg_mwX10_needsOfm (gj_app lg_mwX10_givesm (gj_app lg_mwX10_hasAllm lg_mwX10_laysm))))))))
set_option maxRecDepth 20000 in
theorem lg_mwX9_isLetter : GoodIn lw_tbl mwX9_isLetter := (gj_cons ⟨mem_c (4, 204) (by decide +kernel), good_of_word (by decide +kernel)⟩ (fun w h => absurd h List.not_mem_nil))
set_option maxRecDepth 20000 in
theorem lg_mwX0_withDoc : GoodIn lw_tbl mwX0_withDoc := (gj_cons ⟨mem_c (4, 211) (by decide +kernel), good_of_word (by decide +kernel)⟩ (gj_app (goodIn_c _ [(1, 40), (4, 212), (4, 213), (3, 131), (3, 132), (4, 214), (4, 216), (4, 217), (1, 31), (1, 2), (1, 43), (4, 218), (1, 37)] (by decide +kernel) (by decide +kernel)) (gj_app lg_wsX00 lg_mwX0_init)))
set_option maxRecDepth 20000 in
theorem lg_mwX9_put : GoodIn lw_tbl mwX9_put := (gj_cons ⟨mem_c (4, 201) (by decide +kernel), good_of_word (by decide +kernel)⟩ (gj_app (goodIn_c _ [(4, 202), (4, 203), (1, 1), (2, 76), (2, 78), (0, 1), (2, 16), (4, 56), (4, 57), (4, 58), (1, 2), (4, 4), (4, 205), (3, 130), (3, 131), (3, 132), (3, 133), (4, 206), (2, 25), (4, 207), (3, 226), (1, 21), (4, 208), (4, 209), (4, 210), (4, 14), (4, 16), (0, 23), (4, 19), (4, 21), (0, 24)] (by decide +kernel) (by decide +kernel)) (gj_app lg_wsX90 (gj_app lg_wsX20 (gj_app lg_mwX9_isLetter (gj_app lg_mwX9_refuse (gj_app lg_mwX0_docAt (gj_app lg_mwX2_made (gj_app lg_mwX0_withDoc (gj_app lg_mwX9_act lg_mwX9_answer))))))))))
set_option maxRecDepth 20000 in
theorem lg_mwX10_wrongPutm : GoodIn lw_tbl mwX10_wrongPutm := (gj_cons ⟨mem_c (7, 140) (by decide +kernel), good_of_word (by decide +kernel)⟩ (gj_app (goodIn_c _ [(5, 219), (5, 220), (1, 10), (6, 100), (6, 102), (0, 56), (6, 80), (6, 82), (0, 52)] (by decide +kernel) (by decide +kernel)) (gj_app lg_mwX10_isFromm (gj_app lg_mwX10_isDocm lg_mwX10_sizeOfm))))
set_option maxRecDepth 20000 in
theorem lg_mwX10_setsm : GoodIn lw_tbl mwX10_setsm := (gj_cons ⟨mem_c (7, 144) (by decide +kernel), good_of_word (by decide +kernel)⟩ (gj_app (goodIn_c _ [(5, 58)] (by decide +kernel) (by decide +kernel)) lg_wsX100))
set_option maxRecDepth 20000 in
theorem lg_mwX10_acted_m : GoodIn lw_tbl mwX10_acted_m := (gj_cons ⟨mem_c (7, 148) (by decide +kernel), good_of_word (by decide +kernel)⟩ (gj_app (goodIn_c _ [(6, 56), (6, 58), (0, 49), (1, 10), (6, 60), (6, 62), (0, 50)] (by decide +kernel) (by decide +kernel)) (gj_app lg_mwX10_actedm lg_mwX10_givesm)))
set_option maxRecDepth 20000 in
theorem lg_mwX10_putm : GoodIn lw_tbl mwX10_putm := (gj_cons ⟨mem_c (7, 136) (by decide +kernel), good_of_word (by decide +kernel)⟩ (gj_app (goodIn_c _ [(7, 137), (7, 139), (0, 102), (1, 10), (6, 92), (6, 94), (0, 55), (5, 230), (5, 232), (0, 35), (7, 141), (7, 143), (0, 103), (7, 145), (7, 147), (0, 104), (5, 222), (5, 224), (0, 33)] (by decide +kernel) (by decide +kernel)) (gj_app lg_mwX10_wrongPutm (gj_app lg_mwX10_atm (gj_app lg_mwX10_copiesm (gj_app lg_mwX10_setsm (gj_app lg_mwX10_acted_m lg_mwX10_refusem)))))))
set_option maxRecDepth 20000 in
theorem lg_mwX9_let : GoodIn lw_tbl mwX9_let := (gj_cons ⟨mem_c (4, 222) (by decide +kernel), good_of_word (by decide +kernel)⟩ (gj_app (goodIn_c _ [(4, 202), (4, 203), (1, 1), (2, 76), (2, 78), (0, 1), (2, 16), (4, 56), (4, 57), (4, 58), (1, 2), (4, 4), (1, 54), (2, 183), (2, 185), (2, 184), (1, 15), (2, 25), (4, 207), (3, 226), (1, 21), (4, 208), (4, 209), (4, 210), (4, 14), (4, 16), (0, 23), (4, 19), (4, 21), (0, 24)] (by decide +kernel) (by decide +kernel)) (gj_app lg_wsX90 (gj_app lg_wsX20 (gj_app lg_mwX9_isLetter (gj_app lg_mwX9_refuse (gj_app lg_mwX0_docAt (gj_app lg_mwX2_made (gj_app lg_mwX0_withDoc (gj_app lg_mwX9_act lg_mwX9_answer))))))))))
set_option maxRecDepth 20000 in
theorem lg_mwX10_letm : GoodIn lw_tbl mwX10_letm := (gj_cons ⟨mem_c (7, 152) (by decide +kernel), good_of_word (by decide +kernel)⟩ (gj_app (goodIn_c _ [(5, 222), (5, 224), (0, 33), (1, 10), (5, 219), (5, 220), (6, 100), (6, 102), (0, 56), (6, 80), (6, 82), (0, 52), (5, 230), (5, 232), (0, 35), (7, 141), (7, 143), (0, 103), (5, 58), (7, 145), (7, 147), (0, 104), (6, 92), (6, 94), (0, 55)] (by decide +kernel) (by decide +kernel)) (gj_app lg_wsX100 (gj_app lg_mwX10_refusem (gj_app lg_mwX10_isFromm (gj_app lg_mwX10_isDocm (gj_app lg_mwX10_sizeOfm (gj_app lg_mwX10_copiesm (gj_app lg_mwX10_setsm (gj_app lg_mwX10_acted_m lg_mwX10_atm))))))))))
set_option maxRecDepth 20000 in
theorem lg_mwX9_cut : GoodIn lw_tbl mwX9_cut := (gj_cons ⟨mem_c (4, 226) (by decide +kernel), good_of_word (by decide +kernel)⟩ (gj_app (goodIn_c _ [(2, 76), (2, 78), (0, 1), (1, 1), (2, 16), (4, 56), (4, 57), (4, 58), (1, 2), (4, 4), (1, 54), (2, 183), (2, 185), (2, 184), (1, 15), (2, 25), (4, 207), (3, 226), (1, 21), (4, 208), (4, 209), (4, 210), (4, 14), (4, 16), (0, 23), (4, 19), (4, 21), (0, 24)] (by decide +kernel) (by decide +kernel)) (gj_app lg_wsX90 (gj_app lg_wsX20 (gj_app lg_mwX9_refuse (gj_app lg_mwX0_docAt (gj_app lg_mwX2_made (gj_app lg_mwX0_withDoc (gj_app lg_mwX9_act lg_mwX9_answer)))))))))
set_option maxRecDepth 20000 in
theorem lg_mwX10_cutm : GoodIn lw_tbl mwX10_cutm := (gj_cons ⟨mem_c (7, 156) (by decide +kernel), good_of_word (by decide +kernel)⟩ (gj_app (goodIn_c _ [(5, 222), (5, 224), (0, 33), (1, 10), (6, 100), (6, 102), (0, 56), (6, 80), (6, 82), (0, 52), (5, 230), (5, 232), (0, 35), (5, 58), (7, 145), (7, 147), (0, 104), (6, 92), (6, 94), (0, 55), (7, 141), (7, 143), (0, 103)] (by decide +kernel) (by decide +kernel)) (gj_app lg_wsX100 (gj_app lg_mwX10_refusem (gj_app lg_mwX10_isDocm (gj_app lg_mwX10_sizeOfm (gj_app lg_mwX10_copiesm (gj_app lg_mwX10_acted_m (gj_app lg_mwX10_atm lg_mwX10_setsm)))))))))
set_option maxRecDepth 20000 in
theorem lg_mwX0_withOneMore : GoodIn lw_tbl mwX0_withOneMore := (gj_cons ⟨mem_c (4, 235) (by decide +kernel), good_of_word (by decide +kernel)⟩ (gj_app (goodIn_c _ [(1, 40), (4, 236), (4, 237), (2, 185), (2, 184), (1, 15), (4, 217), (1, 31), (1, 2), (1, 43), (4, 218), (1, 37)] (by decide +kernel) (by decide +kernel)) (gj_app lg_wsX00 lg_mwX0_init)))
set_option maxRecDepth 20000 in
theorem lg_mwX9_copy : GoodIn lw_tbl mwX9_copy := (gj_cons ⟨mem_c (4, 230) (by decide +kernel), good_of_word (by decide +kernel)⟩ (gj_app (goodIn_c _ [(2, 76), (2, 78), (0, 1), (1, 1), (2, 16), (4, 56), (4, 57), (4, 58), (1, 2), (1, 42), (4, 4), (4, 231), (3, 119), (1, 16), (2, 25), (4, 207), (3, 226), (1, 21), (4, 232), (4, 233), (4, 234), (4, 14), (4, 16), (0, 23), (4, 19), (4, 21), (0, 24)] (by decide +kernel) (by decide +kernel)) (gj_app lg_wsX90 (gj_app lg_wsX00 (gj_app lg_wsX20 (gj_app lg_mwX9_refuse (gj_app lg_mwX0_docAt (gj_app lg_mwJ7_copyOfRange_feecc (gj_app lg_mwX2_made (gj_app lg_mwX0_withOneMore (gj_app lg_mwX9_act lg_mwX9_answer)))))))))))
set_option maxRecDepth 20000 in
theorem lg_mwX10_copym : GoodIn lw_tbl mwX10_copym := (gj_cons ⟨mem_c (7, 160) (by decide +kernel), good_of_word (by decide +kernel)⟩ (gj_app (goodIn_c _ [(5, 222), (5, 224), (0, 33), (1, 10), (6, 100), (6, 102), (0, 56), (5, 58), (6, 80), (6, 82), (0, 52), (5, 230), (5, 232), (0, 35), (7, 145), (7, 147), (0, 104), (6, 92), (6, 94), (0, 55), (7, 141), (7, 143), (0, 103)] (by decide +kernel) (by decide +kernel)) (gj_app lg_wsX100 (gj_app lg_mwX10_refusem (gj_app lg_mwX10_isDocm (gj_app lg_mwX10_sizeOfm (gj_app lg_mwX10_copiesm (gj_app lg_mwX10_acted_m (gj_app lg_mwX10_atm lg_mwX10_setsm)))))))))
set_option maxRecDepth 20000 in
theorem lg_mwX0_withoutDoc : GoodIn lw_tbl mwX0_withoutDoc := (gj_cons ⟨mem_c (5, 5) (by decide +kernel), good_of_word (by decide +kernel)⟩ (gj_app (goodIn_c _ [(1, 40), (4, 236), (4, 237), (2, 185), (2, 184), (1, 15), (4, 217), (1, 31), (1, 2), (1, 43), (4, 218), (1, 37)] (by decide +kernel) (by decide +kernel)) (gj_app lg_wsX00 lg_mwX0_init)))
set_option maxRecDepth 20000 in
theorem lg_mwX9_drop : GoodIn lw_tbl mwX9_drop := (gj_cons ⟨mem_c (5, 1) (by decide +kernel), good_of_word (by decide +kernel)⟩ (gj_app (goodIn_c _ [(2, 16), (4, 56), (4, 57), (4, 58), (1, 2), (2, 76), (2, 78), (0, 1), (1, 1), (5, 2), (5, 3), (5, 4), (4, 14), (4, 16), (0, 23), (1, 42), (4, 19), (4, 21), (0, 24)] (by decide +kernel) (by decide +kernel)) (gj_app lg_wsX90 (gj_app lg_wsX00 (gj_app lg_mwX0_docAt (gj_app lg_mwX9_refuse (gj_app lg_mwX0_withoutDoc (gj_app lg_mwX9_act lg_mwX9_answer))))))))
set_option maxRecDepth 20000 in
theorem lg_mwX10_dropm : GoodIn lw_tbl mwX10_dropm := (gj_cons ⟨mem_c (7, 164) (by decide +kernel), good_of_word (by decide +kernel)⟩ (gj_app (goodIn_c _ [(6, 100), (6, 102), (0, 56), (1, 10), (5, 230), (5, 232), (0, 35), (5, 58), (7, 145), (7, 147), (0, 104), (6, 80), (6, 82), (0, 52), (6, 92), (6, 94), (0, 55), (7, 141), (7, 143), (0, 103), (5, 222), (5, 224), (0, 33)] (by decide +kernel) (by decide +kernel)) (gj_app lg_wsX100 (gj_app lg_mwX10_isDocm (gj_app lg_mwX10_copiesm (gj_app lg_mwX10_acted_m (gj_app lg_mwX10_sizeOfm (gj_app lg_mwX10_atm (gj_app lg_mwX10_setsm lg_mwX10_refusem)))))))))
set_option maxRecDepth 20000 in
theorem lg_mwX0_withoutPattern : GoodIn lw_tbl mwX0_withoutPattern := (gj_cons ⟨mem_c (5, 13) (by decide +kernel), good_of_word (by decide +kernel)⟩ (gj_app (goodIn_c _ [(1, 43), (5, 14), (4, 237), (2, 185), (2, 184), (1, 15), (4, 217), (1, 31), (1, 2), (1, 40), (4, 218), (1, 37)] (by decide +kernel) (by decide +kernel)) (gj_app lg_wsX00 lg_mwX0_init)))
set_option maxRecDepth 20000 in
theorem lg_mwX9_forget : GoodIn lw_tbl mwX9_forget := (gj_cons ⟨mem_c (5, 9) (by decide +kernel), good_of_word (by decide +kernel)⟩ (gj_app (goodIn_c _ [(2, 16), (4, 64), (4, 65), (4, 66), (1, 2), (2, 76), (2, 78), (0, 1), (1, 1), (5, 10), (5, 11), (5, 12), (4, 14), (4, 16), (0, 23), (1, 44), (4, 19), (4, 21), (0, 24)] (by decide +kernel) (by decide +kernel)) (gj_app lg_wsX90 (gj_app lg_wsX00 (gj_app lg_mwX0_patternAt2 (gj_app lg_mwX9_refuse (gj_app lg_mwX0_withoutPattern (gj_app lg_mwX9_act lg_mwX9_answer))))))))
set_option maxRecDepth 20000 in
theorem lg_mwX10_forgetm : GoodIn lw_tbl mwX10_forgetm := (gj_cons ⟨mem_c (7, 168) (by decide +kernel), good_of_word (by decide +kernel)⟩ (gj_app (goodIn_c _ [(7, 78), (7, 80), (0, 99), (1, 10), (5, 230), (5, 232), (0, 35), (5, 58), (7, 145), (7, 147), (0, 104), (5, 222), (5, 224), (0, 33)] (by decide +kernel) (by decide +kernel)) (gj_app lg_wsX100 (gj_app lg_mwX10_isPatternm (gj_app lg_mwX10_copiesm (gj_app lg_mwX10_acted_m lg_mwX10_refusem))))))
set_option maxRecDepth 20000 in
theorem lg_mwX9_undo : GoodIn lw_tbl mwX9_undo := (gj_cons ⟨mem_c (5, 18) (by decide +kernel), good_of_word (by decide +kernel)⟩ (gj_app (goodIn_c _ [(2, 16), (1, 46), (2, 17), (2, 76), (2, 78), (0, 1), (1, 1), (4, 19), (4, 21), (0, 24)] (by decide +kernel) (by decide +kernel)) (gj_app lg_wsX90 (gj_app lg_wsX00 (gj_app lg_mwX9_refuse lg_mwX9_answer)))))
set_option maxRecDepth 20000 in
theorem lg_mwX10_undom : GoodIn lw_tbl mwX10_undom := (gj_cons ⟨mem_c (7, 172) (by decide +kernel), good_of_word (by decide +kernel)⟩ (gj_app (goodIn_c _ [(5, 60), (5, 230), (5, 232), (0, 35), (1, 10), (6, 60), (6, 62), (0, 50), (5, 222), (5, 224), (0, 33)] (by decide +kernel) (by decide +kernel)) (gj_app lg_wsX100 (gj_app lg_mwX10_copiesm (gj_app lg_mwX10_givesm lg_mwX10_refusem)))))
set_option maxRecDepth 20000 in
theorem lg_mwX9_mark : GoodIn lw_tbl mwX9_mark := (gj_cons ⟨mem_c (5, 22) (by decide +kernel), good_of_word (by decide +kernel)⟩ (gj_app (goodIn_c _ [(2, 20), (2, 18), (2, 16), (2, 19), (2, 17), (4, 19), (4, 21), (0, 24), (1, 1), (2, 76), (2, 78), (0, 1)] (by decide +kernel) (by decide +kernel)) (gj_app lg_wsX90 (gj_app lg_mwX9_answer lg_mwX9_refuse))))
set_option maxRecDepth 20000 in
theorem lg_mwX10_markm : GoodIn lw_tbl mwX10_markm := (gj_cons ⟨mem_c (7, 176) (by decide +kernel), good_of_word (by decide +kernel)⟩ (gj_app (goodIn_c _ [(5, 61), (7, 177), (5, 230), (5, 232), (0, 35), (1, 10), (6, 60), (6, 62), (0, 50), (5, 222), (5, 224), (0, 33)] (by decide +kernel) (by decide +kernel)) (gj_app lg_wsX100 (gj_app lg_mwX10_copiesm (gj_app lg_mwX10_givesm lg_mwX10_refusem)))))
set_option maxRecDepth 20000 in
theorem lg_mwX9_back : GoodIn lw_tbl mwX9_back := (gj_cons ⟨mem_c (5, 26) (by decide +kernel), good_of_word (by decide +kernel)⟩ (gj_app (goodIn_c _ [(2, 20), (2, 76), (2, 78), (0, 1), (1, 1), (2, 18), (2, 16), (2, 19), (2, 17), (4, 19), (4, 21), (0, 24)] (by decide +kernel) (by decide +kernel)) (gj_app lg_wsX90 (gj_app lg_mwX9_refuse lg_mwX9_answer))))
set_option maxRecDepth 20000 in
theorem lg_mwX10_backm : GoodIn lw_tbl mwX10_backm := (gj_cons ⟨mem_c (7, 181) (by decide +kernel), good_of_word (by decide +kernel)⟩ (gj_app (goodIn_c _ [(5, 61), (7, 177), (5, 230), (5, 232), (0, 35), (1, 10), (6, 60), (6, 62), (0, 50), (5, 222), (5, 224), (0, 33)] (by decide +kernel) (by decide +kernel)) (gj_app lg_wsX100 (gj_app lg_mwX10_copiesm (gj_app lg_mwX10_givesm lg_mwX10_refusem)))))
set_option maxRecDepth 20000 in
theorem lg_mwX9_would : GoodIn lw_tbl mwX9_would := (gj_cons ⟨mem_c (5, 30) (by decide +kernel), good_of_word (by decide +kernel)⟩ (gj_app (goodIn_c _ [(4, 202), (4, 203), (1, 1), (2, 76), (2, 78), (0, 1), (2, 16), (4, 56), (4, 57), (4, 58), (1, 2), (4, 4), (2, 24), (2, 183), (2, 185), (2, 184), (1, 15), (2, 25), (5, 31), (3, 229), (1, 21), (4, 8), (4, 19), (4, 21), (0, 24)] (by decide +kernel) (by decide +kernel)) (gj_app lg_wsX90 (gj_app lg_wsX20 (gj_app lg_mwX9_isLetter (gj_app lg_mwX9_refuse (gj_app lg_mwX0_docAt (gj_app lg_mwX2_sortTriples lg_mwX9_answer))))))))
set_option maxRecDepth 20000 in
theorem lg_mwX10_wouldm : GoodIn lw_tbl mwX10_wouldm := (gj_cons ⟨mem_c (7, 185) (by decide +kernel), good_of_word (by decide +kernel)⟩ (gj_app (goodIn_c _ [(7, 137), (7, 139), (0, 102), (1, 10), (6, 92), (6, 94), (0, 55), (6, 84), (6, 86), (0, 53), (7, 141), (7, 143), (0, 103), (6, 60), (6, 62), (0, 50), (5, 222), (5, 224), (0, 33)] (by decide +kernel) (by decide +kernel)) (gj_app lg_mwX10_wrongPutm (gj_app lg_mwX10_atm (gj_app lg_mwX10_unlikem (gj_app lg_mwX10_setsm (gj_app lg_mwX10_givesm lg_mwX10_refusem)))))))
set_option maxRecDepth 20000 in
theorem lg_mwX5_tallyLetters : GoodIn lw_tbl mwX5_tallyLetters := (gj_cons ⟨mem_c (5, 40) (by decide +kernel), good_of_word (by decide +kernel)⟩ (gj_app (gj_app (goodIn_c _ [(3, 175), (3, 180), (4, 5), (3, 179), (4, 75), (3, 181), (4, 72), (4, 74), (0, 26), (1, 20), (4, 79), (3, 183), (4, 76), (4, 78), (0, 27), (5, 44), (5, 41), (5, 43), (0, 31)] (by decide +kernel) (by decide +kernel)) lg_wsX50) lg_wsX20))
set_option maxRecDepth 20000 in
theorem lg_mwX9_best : GoodIn lw_tbl mwX9_best := (gj_cons ⟨mem_c (5, 35) (by decide +kernel), good_of_word (by decide +kernel)⟩ (gj_app (goodIn_c _ [(2, 16), (4, 56), (4, 57), (4, 58), (1, 2), (2, 76), (2, 78), (0, 1), (1, 1), (4, 4), (2, 26), (5, 36), (2, 191), (1, 16), (1, 44), (4, 19), (4, 21), (0, 24), (4, 64), (4, 65), (4, 66), (5, 37), (5, 38), (5, 39), (1, 20)] (by decide +kernel) (by decide +kernel)) (gj_app lg_wsX90 (gj_app lg_wsX20 (gj_app lg_wsX00 (gj_app lg_mwX0_docAt (gj_app lg_mwX9_refuse (gj_app lg_mwJ7_fill_53178 (gj_app lg_mwX9_answer (gj_app lg_mwX0_patternAt2 lg_mwX5_tallyLetters))))))))))
set_option maxRecDepth 20000 in
theorem lg_mwX10_bestm : GoodIn lw_tbl mwX10_bestm := (gj_cons ⟨mem_c (7, 189) (by decide +kernel), good_of_word (by decide +kernel)⟩ (gj_app (goodIn_c _ [(7, 137), (7, 139), (0, 102), (1, 10), (6, 92), (6, 94), (0, 55), (7, 141), (7, 143), (0, 103), (6, 60), (6, 62), (0, 50), (6, 104), (6, 106), (0, 57), (7, 110), (7, 111), (5, 222), (5, 224), (0, 33)] (by decide +kernel) (by decide +kernel)) (gj_app lg_mwX10_wrongPutm (gj_app lg_mwX10_atm (gj_app lg_mwX10_setsm (gj_app lg_mwX10_givesm (gj_app lg_mwX10_patternsOfm (gj_app lg_mwX10_onesm lg_mwX10_refusem))))))))
set_option maxRecDepth 20000 in
theorem lg_mwX0_init0 : GoodIn lw_tbl mwX0_init0 := (gj_cons ⟨mem_c (1, 38) (by decide +kernel), good_of_word (by decide +kernel)⟩ (gj_app (goodIn_c _ [(1, 39), (1, 28), (1, 29), (1, 40), (1, 43), (1, 45)] (by decide +kernel) (by decide +kernel)) lg_wsX00))
set_option maxRecDepth 20000 in
theorem lg_mwX6_init : GoodIn lw_tbl mwX6_init := (gj_cons ⟨mem_c (1, 60) (by decide +kernel), good_of_word (by decide +kernel)⟩ (gj_app (goodIn_c _ [(1, 61), (1, 28), (1, 29), (1, 54), (1, 72), (1, 74), (1, 104), (1, 76)] (by decide +kernel) (by decide +kernel)) lg_wsX60))
set_option maxRecDepth 20000 in
theorem lg_mwX7_init : GoodIn lw_tbl mwX7_init := (gj_cons ⟨mem_c (1, 122) (by decide +kernel), good_of_word (by decide +kernel)⟩ (gj_app (goodIn_c _ [(1, 123), (1, 28), (1, 29), (1, 131), (1, 124)] (by decide +kernel) (by decide +kernel)) lg_wsX70))
set_option maxRecDepth 20000 in
theorem lg_mwX3_initn12 : GoodIn lw_tbl mwX3_initn12 := (gj_cons ⟨mem_c (1, 136) (by decide +kernel), good_of_word (by decide +kernel)⟩ (gj_app (goodIn_c _ [(1, 137), (1, 28), (1, 29), (1, 138), (1, 139), (1, 8), (1, 140), (1, 141), (1, 54), (1, 142), (1, 143)] (by decide +kernel) (by decide +kernel)) lg_wsX30))
set_option maxRecDepth 20000 in
theorem lg_mwX4_init : GoodIn lw_tbl mwX4_init := (gj_cons ⟨mem_c (1, 116) (by decide +kernel), good_of_word (by decide +kernel)⟩ (gj_app (goodIn_c _ [(1, 117), (1, 28), (1, 29), (1, 118), (1, 119), (1, 6), (1, 121), (1, 154), (1, 132), (1, 133), (1, 7), (1, 134), (1, 135), (1, 157)] (by decide +kernel) (by decide +kernel)) (gj_app lg_wsX70 (gj_app lg_wsX40 (gj_app lg_wsX30 (gj_app lg_mwX7_init lg_mwX3_initn12))))))
set_option maxRecDepth 20000 in
theorem lg_mwX3_initn6 : GoodIn lw_tbl mwX3_initn6 := (gj_cons ⟨mem_c (1, 136) (by decide +kernel), good_of_word (by decide +kernel)⟩ (gj_app (goodIn_c _ [(1, 137), (1, 28), (1, 29), (1, 138), (1, 139), (1, 8), (1, 140), (1, 141), (1, 54), (1, 142), (1, 143)] (by decide +kernel) (by decide +kernel)) lg_wsX30))
set_option maxRecDepth 20000 in
theorem lg_mwX3_initn144 : GoodIn lw_tbl mwX3_initn144 := (gj_cons ⟨mem_c (1, 136) (by decide +kernel), good_of_word (by decide +kernel)⟩ (gj_app (goodIn_c _ [(1, 137), (1, 28), (1, 29), (1, 138), (1, 139), (1, 8), (1, 140), (1, 141), (1, 54), (1, 142), (1, 143)] (by decide +kernel) (by decide +kernel)) lg_wsX30))
set_option maxRecDepth 20000 in
theorem lg_mwX1_init : GoodIn lw_tbl mwX1_init := (gj_cons ⟨mem_c (1, 109) (by decide +kernel), good_of_word (by decide +kernel)⟩ (gj_app (goodIn_c _ [(1, 110), (1, 28), (1, 29), (1, 111), (1, 199), (1, 200), (1, 104), (1, 201), (1, 113), (1, 5), (1, 115), (1, 202), (1, 195), (1, 119), (1, 6), (1, 121), (1, 203), (1, 197), (1, 133), (1, 7), (1, 198), (1, 135), (1, 204), (1, 205), (1, 54), (1, 206), (1, 207), (1, 208)] (by decide +kernel) (by decide +kernel)) (gj_app lg_wsX10 (gj_app lg_wsX40 (gj_app lg_wsX70 (gj_app lg_wsX30 (gj_app lg_mwX4_init (gj_app lg_mwX7_init (gj_app lg_mwX3_initn6 lg_mwX3_initn144)))))))))
set_option maxRecDepth 20000 in
theorem lg_mwX8_init : GoodIn lw_tbl mwX8_init := (gj_cons ⟨mem_c (1, 237) (by decide +kernel), good_of_word (by decide +kernel)⟩ (gj_app (goodIn_c _ [(1, 238), (1, 28), (1, 29), (1, 54), (2, 3)] (by decide +kernel) (by decide +kernel)) lg_wsX80))
set_option maxRecDepth 20000 in
theorem lg_mwX9_init : GoodIn lw_tbl mwX9_init := (gj_cons ⟨mem_c (1, 26) (by decide +kernel), good_of_word (by decide +kernel)⟩ (gj_app (goodIn_c _ [(1, 27), (1, 28), (1, 29), (1, 54), (2, 12), (2, 14), (2, 15), (1, 30), (1, 31), (1, 2), (1, 32), (1, 34), (1, 36), (1, 37), (2, 16), (2, 18), (2, 19), (1, 56), (1, 57), (1, 3), (1, 59), (2, 21), (1, 105), (1, 106), (1, 4), (1, 107), (1, 108), (2, 22), (1, 233), (1, 234), (1, 9), (1, 236), (2, 23), (2, 24), (2, 25), (2, 26)] (by decide +kernel) (by decide +kernel)) (gj_app lg_wsX90 (gj_app lg_wsX00 (gj_app lg_wsX60 (gj_app lg_wsX10 (gj_app lg_wsX80 (gj_app lg_mwX0_init0 (gj_app lg_mwX6_init (gj_app lg_mwX1_init lg_mwX8_init))))))))))
set_option maxRecDepth 20000 in
theorem mg_L_X9_status : GoodIn lw_tbl (wsV RL 13 RX9 yX9_status mwX9_status) := gj_app (A := [.methodLink RL 13 yX9_status, .instanceMethod yX9_status, .selects RX9 yX9_status yX9_status, .initialized RX9]) (goodIn_c _ [(2, 60), (2, 61), (2, 62), (1, 1)] (by decide +kernel) (by decide +kernel)) lg_mwX9_status
set_option maxRecDepth 20000 in
theorem mg_L_X10_status : GoodIn lw_tbl (wsV RL 17 RX10 yX10_status mwX10_statusm) := gj_app (A := [.methodLink RL 17 yX10_status, .instanceMethod yX10_status, .selects RX10 yX10_status yX10_status, .initialized RX10]) (goodIn_c _ [(5, 203), (5, 204), (5, 205), (1, 10)] (by decide +kernel) (by decide +kernel)) lg_mwX10_statusm
set_option maxRecDepth 20000 in
theorem mg_L_X9_feed : GoodIn lw_tbl (wsV RL 18 RX9 yX9_feed mwX9_feed) := gj_app (A := [.methodLink RL 18 yX9_feed, .instanceMethod yX9_feed, .selects RX9 yX9_feed yX9_feed, .initialized RX9]) (goodIn_c _ [(2, 64), (2, 65), (2, 66), (1, 1)] (by decide +kernel) (by decide +kernel)) lg_mwX9_feed
set_option maxRecDepth 20000 in
theorem mg_L_X10_feed : GoodIn lw_tbl (wsV RL 22 RX10 yX10_feed mwX10_feedm) := gj_app (A := [.methodLink RL 22 yX10_feed, .instanceMethod yX10_feed, .selects RX10 yX10_feed yX10_feed, .initialized RX10]) (goodIn_c _ [(5, 207), (5, 208), (5, 209), (1, 10)] (by decide +kernel) (by decide +kernel)) lg_mwX10_feedm
set_option maxRecDepth 20000 in
theorem mg_L_X9_load : GoodIn lw_tbl (wsV RL 23 RX9 yX9_load mwX9_load) := gj_app (A := [.methodLink RL 23 yX9_load, .instanceMethod yX9_load, .selects RX9 yX9_load yX9_load, .initialized RX9]) (goodIn_c _ [(2, 72), (2, 73), (2, 74), (1, 1)] (by decide +kernel) (by decide +kernel)) lg_mwX9_load
set_option maxRecDepth 20000 in
theorem mg_L_X10_load : GoodIn lw_tbl (wsV RL 27 RX10 yX10_load mwX10_loadm) := gj_app (A := [.methodLink RL 27 yX10_load, .instanceMethod yX10_load, .selects RX10 yX10_load yX10_load, .initialized RX10]) (goodIn_c _ [(5, 215), (5, 216), (5, 217), (1, 10)] (by decide +kernel) (by decide +kernel)) lg_mwX10_loadm
set_option maxRecDepth 20000 in
theorem mg_L_X9_more : GoodIn lw_tbl (wsV RL 28 RX9 yX9_more mwX9_more) := gj_app (A := [.methodLink RL 28 yX9_more, .instanceMethod yX9_more, .selects RX9 yX9_more yX9_more, .initialized RX9]) (goodIn_c _ [(4, 23), (4, 24), (4, 25), (1, 1)] (by decide +kernel) (by decide +kernel)) lg_mwX9_more
set_option maxRecDepth 20000 in
theorem mg_L_X10_more : GoodIn lw_tbl (wsV RL 31 RX10 yX10_more mwX10_morem) := gj_app (A := [.methodLink RL 31 yX10_more, .instanceMethod yX10_more, .selects RX10 yX10_more yX10_more, .initialized RX10]) (goodIn_c _ [(6, 64), (6, 65), (6, 66), (1, 10)] (by decide +kernel) (by decide +kernel)) lg_mwX10_morem
set_option maxRecDepth 20000 in
theorem mg_L_X9_fault : GoodIn lw_tbl (wsV RL 32 RX9 yX9_fault mwX9_fault) := gj_app (A := [.methodLink RL 32 yX9_fault, .instanceMethod yX9_fault, .selects RX9 yX9_fault yX9_fault, .initialized RX9]) (goodIn_c _ [(4, 27), (4, 28), (4, 29), (1, 1)] (by decide +kernel) (by decide +kernel)) lg_mwX9_fault
set_option maxRecDepth 20000 in
theorem mg_L_X10_fault : GoodIn lw_tbl (wsV RL 35 RX10 yX10_fault mwX10_faultm) := gj_app (A := [.methodLink RL 35 yX10_fault, .instanceMethod yX10_fault, .selects RX10 yX10_fault yX10_fault, .initialized RX10]) (goodIn_c _ [(6, 68), (6, 69), (6, 70), (1, 10)] (by decide +kernel) (by decide +kernel)) lg_mwX10_faultm
set_option maxRecDepth 20000 in
theorem mg_L_X9_many : GoodIn lw_tbl (wsV RL 36 RX9 yX9_many mwX9_many) := gj_app (A := [.methodLink RL 36 yX9_many, .instanceMethod yX9_many, .selects RX9 yX9_many yX9_many, .initialized RX9]) (goodIn_c _ [(4, 31), (4, 32), (4, 33), (1, 1)] (by decide +kernel) (by decide +kernel)) lg_mwX9_many
set_option maxRecDepth 20000 in
theorem mg_L_X10_many : GoodIn lw_tbl (wsV RL 39 RX10 yX10_many mwX10_manym) := gj_app (A := [.methodLink RL 39 yX10_many, .instanceMethod yX10_many, .selects RX10 yX10_many yX10_many, .initialized RX10]) (goodIn_c _ [(6, 72), (6, 73), (6, 74), (1, 10)] (by decide +kernel) (by decide +kernel)) lg_mwX10_manym
set_option maxRecDepth 20000 in
theorem mg_L_X9_document : GoodIn lw_tbl (wsV RL 40 RX9 yX9_document mwX9_document) := gj_app (A := [.methodLink RL 40 yX9_document, .instanceMethod yX9_document, .selects RX9 yX9_document yX9_document, .initialized RX9]) (goodIn_c _ [(4, 52), (4, 53), (4, 54), (1, 1)] (by decide +kernel) (by decide +kernel)) lg_mwX9_document
set_option maxRecDepth 20000 in
theorem mg_L_X10_document : GoodIn lw_tbl (wsV RL 44 RX10 yX10_document mwX10_documentm) := gj_app (A := [.methodLink RL 44 yX10_document, .instanceMethod yX10_document, .selects RX10 yX10_document yX10_document, .initialized RX10]) (goodIn_c _ [(6, 96), (6, 97), (6, 98), (1, 10)] (by decide +kernel) (by decide +kernel)) lg_mwX10_documentm
set_option maxRecDepth 20000 in
theorem mg_L_X9_letter : GoodIn lw_tbl (wsV RL 45 RX9 yX9_letter mwX9_letter) := gj_app (A := [.methodLink RL 45 yX9_letter, .instanceMethod yX9_letter, .selects RX9 yX9_letter yX9_letter, .initialized RX9]) (goodIn_c _ [(4, 107), (4, 108), (4, 109), (1, 1)] (by decide +kernel) (by decide +kernel)) lg_mwX9_letter
set_option maxRecDepth 20000 in
theorem mg_L_X10_letter : GoodIn lw_tbl (wsV RL 48 RX10 yX10_letter mwX10_letterm) := gj_app (A := [.methodLink RL 48 yX10_letter, .instanceMethod yX10_letter, .selects RX10 yX10_letter yX10_letter, .initialized RX10]) (goodIn_c _ [(7, 70), (7, 71), (7, 72), (1, 10)] (by decide +kernel) (by decide +kernel)) lg_mwX10_letterm
set_option maxRecDepth 20000 in
theorem mg_L_X9_pattern : GoodIn lw_tbl (wsV RL 49 RX9 yX9_pattern mwX9_pattern) := gj_app (A := [.methodLink RL 49 yX9_pattern, .instanceMethod yX9_pattern, .selects RX9 yX9_pattern yX9_pattern, .initialized RX9]) (goodIn_c _ [(4, 111), (4, 112), (4, 113), (1, 1)] (by decide +kernel) (by decide +kernel)) lg_mwX9_pattern
set_option maxRecDepth 20000 in
theorem mg_L_X10_pattern : GoodIn lw_tbl (wsV RL 52 RX10 yX10_pattern mwX10_patternm) := gj_app (A := [.methodLink RL 52 yX10_pattern, .instanceMethod yX10_pattern, .selects RX10 yX10_pattern yX10_pattern, .initialized RX10]) (goodIn_c _ [(7, 74), (7, 75), (7, 76), (1, 10)] (by decide +kernel) (by decide +kernel)) lg_mwX10_patternm
set_option maxRecDepth 20000 in
theorem mg_L_X9_sign : GoodIn lw_tbl (wsV RL 53 RX9 yX9_sign mwX9_sign) := gj_app (A := [.methodLink RL 53 yX9_sign, .instanceMethod yX9_sign, .selects RX9 yX9_sign yX9_sign, .initialized RX9]) (goodIn_c _ [(4, 116), (4, 117), (4, 118), (1, 1)] (by decide +kernel) (by decide +kernel)) lg_mwX9_sign
set_option maxRecDepth 20000 in
theorem mg_L_X10_sign : GoodIn lw_tbl (wsV RL 56 RX10 yX10_sign mwX10_signm) := gj_app (A := [.methodLink RL 56 yX10_sign, .instanceMethod yX10_sign, .selects RX10 yX10_sign yX10_sign, .initialized RX10]) (goodIn_c _ [(7, 86), (7, 87), (7, 88), (1, 10)] (by decide +kernel) (by decide +kernel)) lg_mwX10_signm
set_option maxRecDepth 20000 in
theorem mg_L_X9_exact : GoodIn lw_tbl (wsV RL 57 RX9 yX9_exact mwX9_exact) := gj_app (A := [.methodLink RL 57 yX9_exact, .instanceMethod yX9_exact, .selects RX9 yX9_exact yX9_exact, .initialized RX9]) (goodIn_c _ [(4, 120), (4, 121), (4, 122), (1, 1)] (by decide +kernel) (by decide +kernel)) lg_mwX9_exact
set_option maxRecDepth 20000 in
theorem mg_L_X10_exact : GoodIn lw_tbl (wsV RL 61 RX10 yX10_exact mwX10_exactm) := gj_app (A := [.methodLink RL 61 yX10_exact, .instanceMethod yX10_exact, .selects RX10 yX10_exact yX10_exact, .initialized RX10]) (goodIn_c _ [(7, 90), (7, 91), (7, 92), (1, 10)] (by decide +kernel) (by decide +kernel)) lg_mwX10_exactm
set_option maxRecDepth 20000 in
theorem mg_L_X9_need : GoodIn lw_tbl (wsV RL 62 RX9 yX9_need mwX9_need) := gj_app (A := [.methodLink RL 62 yX9_need, .instanceMethod yX9_need, .selects RX9 yX9_need yX9_need, .initialized RX9]) (goodIn_c _ [(4, 126), (4, 127), (4, 128), (1, 1)] (by decide +kernel) (by decide +kernel)) lg_mwX9_need
set_option maxRecDepth 20000 in
theorem mg_L_X10_need : GoodIn lw_tbl (wsV RL 65 RX10 yX10_need mwX10_needm) := gj_app (A := [.methodLink RL 65 yX10_need, .instanceMethod yX10_need, .selects RX10 yX10_need yX10_need, .initialized RX10]) (goodIn_c _ [(7, 94), (7, 95), (7, 96), (1, 10)] (by decide +kernel) (by decide +kernel)) lg_mwX10_needm
set_option maxRecDepth 20000 in
theorem mg_L_X9_list : GoodIn lw_tbl (wsV RL 66 RX9 yX9_list mwX9_list) := gj_app (A := [.methodLink RL 66 yX9_list, .instanceMethod yX9_list, .selects RX9 yX9_list yX9_list, .initialized RX9]) (goodIn_c _ [(4, 132), (4, 133), (4, 134), (1, 1)] (by decide +kernel) (by decide +kernel)) lg_mwX9_list
set_option maxRecDepth 20000 in
theorem mg_L_X10_list : GoodIn lw_tbl (wsV RL 69 RX10 yX10_list mwX10_listm) := gj_app (A := [.methodLink RL 69 yX10_list, .instanceMethod yX10_list, .selects RX10 yX10_list yX10_list, .initialized RX10]) (goodIn_c _ [(7, 98), (7, 99), (7, 100), (1, 10)] (by decide +kernel) (by decide +kernel)) lg_mwX10_listm
set_option maxRecDepth 20000 in
theorem mg_L_X9_often : GoodIn lw_tbl (wsV RL 70 RX9 yX9_often mwX9_often) := gj_app (A := [.methodLink RL 70 yX9_often, .instanceMethod yX9_often, .selects RX9 yX9_often yX9_often, .initialized RX9]) (goodIn_c _ [(4, 142), (4, 143), (4, 144), (1, 1)] (by decide +kernel) (by decide +kernel)) lg_mwX9_often
set_option maxRecDepth 20000 in
theorem mg_L_X10_often : GoodIn lw_tbl (wsV RL 73 RX10 yX10_often mwX10_oftenm) := gj_app (A := [.methodLink RL 73 yX10_often, .instanceMethod yX10_often, .selects RX10 yX10_often yX10_often, .initialized RX10]) (goodIn_c _ [(7, 102), (7, 103), (7, 104), (1, 10)] (by decide +kernel) (by decide +kernel)) lg_mwX10_oftenm
set_option maxRecDepth 20000 in
theorem mg_L_X9_gate : GoodIn lw_tbl (wsV RL 74 RX9 yX9_gate mwX9_gate) := gj_app (A := [.methodLink RL 74 yX9_gate, .instanceMethod yX9_gate, .selects RX9 yX9_gate yX9_gate, .initialized RX9]) (goodIn_c _ [(4, 150), (4, 151), (4, 152), (1, 1)] (by decide +kernel) (by decide +kernel)) lg_mwX9_gate
set_option maxRecDepth 20000 in
theorem mg_L_X10_gate : GoodIn lw_tbl (wsV RL 77 RX10 yX10_gate mwX10_gatem) := gj_app (A := [.methodLink RL 77 yX10_gate, .instanceMethod yX10_gate, .selects RX10 yX10_gate yX10_gate, .initialized RX10]) (goodIn_c _ [(7, 106), (7, 107), (7, 108), (1, 10)] (by decide +kernel) (by decide +kernel)) lg_mwX10_gatem
set_option maxRecDepth 20000 in
theorem mg_L_X9_match : GoodIn lw_tbl (wsV RL 78 RX9 yX9_match mwX9_match) := gj_app (A := [.methodLink RL 78 yX9_match, .instanceMethod yX9_match, .selects RX9 yX9_match yX9_match, .initialized RX9]) (goodIn_c _ [(4, 158), (4, 159), (4, 160), (1, 1)] (by decide +kernel) (by decide +kernel)) lg_mwX9_match
set_option maxRecDepth 20000 in
theorem mg_L_X10_match : GoodIn lw_tbl (wsV RL 81 RX10 yX10_match mwX10_matchm) := gj_app (A := [.methodLink RL 81 yX10_match, .instanceMethod yX10_match, .selects RX10 yX10_match yX10_match, .initialized RX10]) (goodIn_c _ [(7, 113), (7, 114), (7, 115), (1, 10)] (by decide +kernel) (by decide +kernel)) lg_mwX10_matchm
set_option maxRecDepth 20000 in
theorem mg_L_X9_alive : GoodIn lw_tbl (wsV RL 82 RX9 yX9_alive mwX9_alive) := gj_app (A := [.methodLink RL 82 yX9_alive, .instanceMethod yX9_alive, .selects RX9 yX9_alive yX9_alive, .initialized RX9]) (goodIn_c _ [(4, 176), (4, 177), (4, 178), (1, 1)] (by decide +kernel) (by decide +kernel)) lg_mwX9_alive
set_option maxRecDepth 20000 in
theorem mg_L_X10_alive : GoodIn lw_tbl (wsV RL 85 RX10 yX10_alive mwX10_alivem) := gj_app (A := [.methodLink RL 85 yX10_alive, .instanceMethod yX10_alive, .selects RX10 yX10_alive yX10_alive, .initialized RX10]) (goodIn_c _ [(7, 121), (7, 122), (7, 123), (1, 10)] (by decide +kernel) (by decide +kernel)) lg_mwX10_alivem
set_option maxRecDepth 20000 in
theorem mg_L_X9_rarest : GoodIn lw_tbl (wsV RL 86 RX9 yX9_rarest mwX9_rarest) := gj_app (A := [.methodLink RL 86 yX9_rarest, .instanceMethod yX9_rarest, .selects RX9 yX9_rarest yX9_rarest, .initialized RX9]) (goodIn_c _ [(4, 184), (4, 185), (4, 186), (1, 1)] (by decide +kernel) (by decide +kernel)) lg_mwX9_rarest
set_option maxRecDepth 20000 in
theorem mg_L_X10_rarest : GoodIn lw_tbl (wsV RL 89 RX10 yX10_rarest mwX10_rarestm) := gj_app (A := [.methodLink RL 89 yX10_rarest, .instanceMethod yX10_rarest, .selects RX10 yX10_rarest yX10_rarest, .initialized RX10]) (goodIn_c _ [(7, 125), (7, 126), (7, 127), (1, 10)] (by decide +kernel) (by decide +kernel)) lg_mwX10_rarestm
set_option maxRecDepth 20000 in
theorem mg_L_X9_within : GoodIn lw_tbl (wsV RL 90 RX9 yX9_within mwX9_within) := gj_app (A := [.methodLink RL 90 yX9_within, .instanceMethod yX9_within, .selects RX9 yX9_within yX9_within, .initialized RX9]) (goodIn_c _ [(4, 188), (4, 189), (4, 190), (1, 1)] (by decide +kernel) (by decide +kernel)) lg_mwX9_within
set_option maxRecDepth 20000 in
theorem mg_L_X10_within : GoodIn lw_tbl (wsV RL 93 RX10 yX10_within mwX10_withinm) := gj_app (A := [.methodLink RL 93 yX10_within, .instanceMethod yX10_within, .selects RX10 yX10_within yX10_within, .initialized RX10]) (goodIn_c _ [(7, 129), (7, 130), (7, 131), (1, 10)] (by decide +kernel) (by decide +kernel)) lg_mwX10_withinm
set_option maxRecDepth 20000 in
theorem mg_L_X9_put : GoodIn lw_tbl (wsV RL 94 RX9 yX9_put mwX9_put) := gj_app (A := [.methodLink RL 94 yX9_put, .instanceMethod yX9_put, .selects RX9 yX9_put yX9_put, .initialized RX9]) (goodIn_c _ [(4, 198), (4, 199), (4, 200), (1, 1)] (by decide +kernel) (by decide +kernel)) lg_mwX9_put
set_option maxRecDepth 20000 in
theorem mg_L_X10_put : GoodIn lw_tbl (wsV RL 97 RX10 yX10_put mwX10_putm) := gj_app (A := [.methodLink RL 97 yX10_put, .instanceMethod yX10_put, .selects RX10 yX10_put yX10_put, .initialized RX10]) (goodIn_c _ [(7, 133), (7, 134), (7, 135), (1, 10)] (by decide +kernel) (by decide +kernel)) lg_mwX10_putm
set_option maxRecDepth 20000 in
theorem mg_L_X9_let : GoodIn lw_tbl (wsV RL 98 RX9 yX9_let mwX9_let) := gj_app (A := [.methodLink RL 98 yX9_let, .instanceMethod yX9_let, .selects RX9 yX9_let yX9_let, .initialized RX9]) (goodIn_c _ [(4, 219), (4, 220), (4, 221), (1, 1)] (by decide +kernel) (by decide +kernel)) lg_mwX9_let
set_option maxRecDepth 20000 in
theorem mg_L_X10_let : GoodIn lw_tbl (wsV RL 101 RX10 yX10_let mwX10_letm) := gj_app (A := [.methodLink RL 101 yX10_let, .instanceMethod yX10_let, .selects RX10 yX10_let yX10_let, .initialized RX10]) (goodIn_c _ [(7, 149), (7, 150), (7, 151), (1, 10)] (by decide +kernel) (by decide +kernel)) lg_mwX10_letm
set_option maxRecDepth 20000 in
theorem mg_L_X9_cut : GoodIn lw_tbl (wsV RL 102 RX9 yX9_cut mwX9_cut) := gj_app (A := [.methodLink RL 102 yX9_cut, .instanceMethod yX9_cut, .selects RX9 yX9_cut yX9_cut, .initialized RX9]) (goodIn_c _ [(4, 223), (4, 224), (4, 225), (1, 1)] (by decide +kernel) (by decide +kernel)) lg_mwX9_cut
set_option maxRecDepth 20000 in
theorem mg_L_X10_cut : GoodIn lw_tbl (wsV RL 105 RX10 yX10_cut mwX10_cutm) := gj_app (A := [.methodLink RL 105 yX10_cut, .instanceMethod yX10_cut, .selects RX10 yX10_cut yX10_cut, .initialized RX10]) (goodIn_c _ [(7, 153), (7, 154), (7, 155), (1, 10)] (by decide +kernel) (by decide +kernel)) lg_mwX10_cutm
set_option maxRecDepth 20000 in
theorem mg_L_X9_copy : GoodIn lw_tbl (wsV RL 106 RX9 yX9_copy mwX9_copy) := gj_app (A := [.methodLink RL 106 yX9_copy, .instanceMethod yX9_copy, .selects RX9 yX9_copy yX9_copy, .initialized RX9]) (goodIn_c _ [(4, 227), (4, 228), (4, 229), (1, 1)] (by decide +kernel) (by decide +kernel)) lg_mwX9_copy
set_option maxRecDepth 20000 in
theorem mg_L_X10_copy : GoodIn lw_tbl (wsV RL 109 RX10 yX10_copy mwX10_copym) := gj_app (A := [.methodLink RL 109 yX10_copy, .instanceMethod yX10_copy, .selects RX10 yX10_copy yX10_copy, .initialized RX10]) (goodIn_c _ [(7, 157), (7, 158), (7, 159), (1, 10)] (by decide +kernel) (by decide +kernel)) lg_mwX10_copym
set_option maxRecDepth 20000 in
theorem mg_L_X9_drop : GoodIn lw_tbl (wsV RL 110 RX9 yX9_drop mwX9_drop) := gj_app (A := [.methodLink RL 110 yX9_drop, .instanceMethod yX9_drop, .selects RX9 yX9_drop yX9_drop, .initialized RX9]) (goodIn_c _ [(4, 238), (4, 239), (5, 0), (1, 1)] (by decide +kernel) (by decide +kernel)) lg_mwX9_drop
set_option maxRecDepth 20000 in
theorem mg_L_X10_drop : GoodIn lw_tbl (wsV RL 113 RX10 yX10_drop mwX10_dropm) := gj_app (A := [.methodLink RL 113 yX10_drop, .instanceMethod yX10_drop, .selects RX10 yX10_drop yX10_drop, .initialized RX10]) (goodIn_c _ [(7, 161), (7, 162), (7, 163), (1, 10)] (by decide +kernel) (by decide +kernel)) lg_mwX10_dropm
set_option maxRecDepth 20000 in
theorem mg_L_X9_forget : GoodIn lw_tbl (wsV RL 114 RX9 yX9_forget mwX9_forget) := gj_app (A := [.methodLink RL 114 yX9_forget, .instanceMethod yX9_forget, .selects RX9 yX9_forget yX9_forget, .initialized RX9]) (goodIn_c _ [(5, 6), (5, 7), (5, 8), (1, 1)] (by decide +kernel) (by decide +kernel)) lg_mwX9_forget
set_option maxRecDepth 20000 in
theorem mg_L_X10_forget : GoodIn lw_tbl (wsV RL 117 RX10 yX10_forget mwX10_forgetm) := gj_app (A := [.methodLink RL 117 yX10_forget, .instanceMethod yX10_forget, .selects RX10 yX10_forget yX10_forget, .initialized RX10]) (goodIn_c _ [(7, 165), (7, 166), (7, 167), (1, 10)] (by decide +kernel) (by decide +kernel)) lg_mwX10_forgetm
set_option maxRecDepth 20000 in
theorem mg_L_X9_undo : GoodIn lw_tbl (wsV RL 118 RX9 yX9_undo mwX9_undo) := gj_app (A := [.methodLink RL 118 yX9_undo, .instanceMethod yX9_undo, .selects RX9 yX9_undo yX9_undo, .initialized RX9]) (goodIn_c _ [(5, 15), (5, 16), (5, 17), (1, 1)] (by decide +kernel) (by decide +kernel)) lg_mwX9_undo
set_option maxRecDepth 20000 in
theorem mg_L_X10_undo : GoodIn lw_tbl (wsV RL 121 RX10 yX10_undo mwX10_undom) := gj_app (A := [.methodLink RL 121 yX10_undo, .instanceMethod yX10_undo, .selects RX10 yX10_undo yX10_undo, .initialized RX10]) (goodIn_c _ [(7, 169), (7, 170), (7, 171), (1, 10)] (by decide +kernel) (by decide +kernel)) lg_mwX10_undom
set_option maxRecDepth 20000 in
theorem mg_L_X9_mark : GoodIn lw_tbl (wsV RL 122 RX9 yX9_mark mwX9_mark) := gj_app (A := [.methodLink RL 122 yX9_mark, .instanceMethod yX9_mark, .selects RX9 yX9_mark yX9_mark, .initialized RX9]) (goodIn_c _ [(5, 19), (5, 20), (5, 21), (1, 1)] (by decide +kernel) (by decide +kernel)) lg_mwX9_mark
set_option maxRecDepth 20000 in
theorem mg_L_X10_mark : GoodIn lw_tbl (wsV RL 125 RX10 yX10_mark mwX10_markm) := gj_app (A := [.methodLink RL 125 yX10_mark, .instanceMethod yX10_mark, .selects RX10 yX10_mark yX10_mark, .initialized RX10]) (goodIn_c _ [(7, 173), (7, 174), (7, 175), (1, 10)] (by decide +kernel) (by decide +kernel)) lg_mwX10_markm
set_option maxRecDepth 20000 in
theorem mg_L_X9_back : GoodIn lw_tbl (wsV RL 126 RX9 yX9_back mwX9_back) := gj_app (A := [.methodLink RL 126 yX9_back, .instanceMethod yX9_back, .selects RX9 yX9_back yX9_back, .initialized RX9]) (goodIn_c _ [(5, 23), (5, 24), (5, 25), (1, 1)] (by decide +kernel) (by decide +kernel)) lg_mwX9_back
set_option maxRecDepth 20000 in
theorem mg_L_X10_back : GoodIn lw_tbl (wsV RL 129 RX10 yX10_back mwX10_backm) := gj_app (A := [.methodLink RL 129 yX10_back, .instanceMethod yX10_back, .selects RX10 yX10_back yX10_back, .initialized RX10]) (goodIn_c _ [(7, 178), (7, 179), (7, 180), (1, 10)] (by decide +kernel) (by decide +kernel)) lg_mwX10_backm
set_option maxRecDepth 20000 in
theorem mg_L_X9_would : GoodIn lw_tbl (wsV RL 130 RX9 yX9_would mwX9_would) := gj_app (A := [.methodLink RL 130 yX9_would, .instanceMethod yX9_would, .selects RX9 yX9_would yX9_would, .initialized RX9]) (goodIn_c _ [(5, 27), (5, 28), (5, 29), (1, 1)] (by decide +kernel) (by decide +kernel)) lg_mwX9_would
set_option maxRecDepth 20000 in
theorem mg_L_X10_would : GoodIn lw_tbl (wsV RL 133 RX10 yX10_would mwX10_wouldm) := gj_app (A := [.methodLink RL 133 yX10_would, .instanceMethod yX10_would, .selects RX10 yX10_would yX10_would, .initialized RX10]) (goodIn_c _ [(7, 182), (7, 183), (7, 184), (1, 10)] (by decide +kernel) (by decide +kernel)) lg_mwX10_wouldm
set_option maxRecDepth 20000 in
theorem mg_L_X9_best : GoodIn lw_tbl (wsV RL 134 RX9 yX9_best mwX9_best) := gj_app (A := [.methodLink RL 134 yX9_best, .instanceMethod yX9_best, .selects RX9 yX9_best yX9_best, .initialized RX9]) (goodIn_c _ [(5, 32), (5, 33), (5, 34), (1, 1)] (by decide +kernel) (by decide +kernel)) lg_mwX9_best
set_option maxRecDepth 20000 in
theorem mg_L_X10_best : GoodIn lw_tbl (wsV RL 137 RX10 yX10_best mwX10_bestm) := gj_app (A := [.methodLink RL 137 yX10_best, .instanceMethod yX10_best, .selects RX10 yX10_best yX10_best, .initialized RX10]) (goodIn_c _ [(7, 186), (7, 187), (7, 188), (1, 10)] (by decide +kernel) (by decide +kernel)) lg_mwX10_bestm
