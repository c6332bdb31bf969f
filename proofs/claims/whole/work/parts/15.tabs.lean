theorem am_d2 : ∀ q ∈ am_k2, decode cX0_fly q.1 = .ok (q.2.1, q.2.2.1) := fun q h => (fun h => (List.mem_append.mp h).elim (am_d2_0 q) (am_d2_1 q)) h
theorem am_d3 : ∀ q ∈ am_k3, decode cX0_flyStrip q.1 = .ok (q.2.1, q.2.2.1) := fun q h => (fun h => (List.mem_append.mp h).elim (am_d3_0 q) (fun h => (List.mem_append.mp h).elim (am_d3_1 q) (am_d3_2 q))) h
theorem am_d5 : ∀ q ∈ am_k5, decode cX0_click q.1 = .ok (q.2.1, q.2.2.1) := fun q h => (fun h => (List.mem_append.mp h).elim (am_d5_0 q) (am_d5_1 q)) h
theorem am_d13 : ∀ q ∈ am_k13, decode cX1_says q.1 = .ok (q.2.1, q.2.2.1) := fun q h => (fun h => (List.mem_append.mp h).elim (am_d13_0 q) (am_d13_1 q)) h
theorem am_d24 : ∀ q ∈ am_k24, decode cX2_readOne q.1 = .ok (q.2.1, q.2.2.1) := fun q h => (fun h => (List.mem_append.mp h).elim (am_d24_0 q) (am_d24_1 q)) h
theorem am_d25 : ∀ q ∈ am_k25, decode cX2_advance q.1 = .ok (q.2.1, q.2.2.1) := fun q h => (fun h => (List.mem_append.mp h).elim (am_d25_0 q) (am_d25_1 q)) h
theorem am_d27 : ∀ q ∈ am_k27, decode cX2_wordNumber q.1 = .ok (q.2.1, q.2.2.1) := fun q h => (fun h => (List.mem_append.mp h).elim (am_d27_0 q) (am_d27_1 q)) h
theorem am_d34 : ∀ q ∈ am_k34, decode cX3_take q.1 = .ok (q.2.1, q.2.2.1) := fun q h => (fun h => (List.mem_append.mp h).elim (am_d34_0 q) (am_d34_1 q)) h
theorem am_d43 : ∀ q ∈ am_k43, decode cX5_init q.1 = .ok (q.2.1, q.2.2.1) := fun q h => (fun h => (List.mem_append.mp h).elim (am_d43_0 q) (am_d43_1 q)) h
theorem am_d46 : ∀ q ∈ am_k46, decode cX5_set q.1 = .ok (q.2.1, q.2.2.1) := fun q h => (fun h => (List.mem_append.mp h).elim (am_d46_0 q) (am_d46_1 q)) h
theorem am_d49 : ∀ q ∈ am_k49, decode cX5_feed q.1 = .ok (q.2.1, q.2.2.1) := fun q h => (fun h => (List.mem_append.mp h).elim (am_d49_0 q) (am_d49_1 q)) h
theorem am_d53 : ∀ q ∈ am_k53, decode cX5_plane q.1 = .ok (q.2.1, q.2.2.1) := fun q h => (fun h => (List.mem_append.mp h).elim (am_d53_0 q) (am_d53_1 q)) h
theorem am_d54 : ∀ q ∈ am_k54, decode cX5_load q.1 = .ok (q.2.1, q.2.2.1) := fun q h => (fun h => (List.mem_append.mp h).elim (am_d54_0 q) (am_d54_1 q)) h
theorem am_d63 : ∀ q ∈ am_k63, decode cX5_again q.1 = .ok (q.2.1, q.2.2.1) := fun q h => (fun h => (List.mem_append.mp h).elim (am_d63_0 q) (am_d63_1 q)) h
theorem am_d72 : ∀ q ∈ am_k72, decode cX5_kinds q.1 = .ok (q.2.1, q.2.2.1) := fun q h => (fun h => (List.mem_append.mp h).elim (am_d72_0 q) (am_d72_1 q)) h
theorem am_d76 : ∀ q ∈ am_k76, decode cX5_odds q.1 = .ok (q.2.1, q.2.2.1) := fun q h => (fun h => (List.mem_append.mp h).elim (am_d76_0 q) (am_d76_1 q)) h
theorem am_d82 : ∀ q ∈ am_k82, decode cX5_landBy q.1 = .ok (q.2.1, q.2.2.1) := fun q h => (fun h => (List.mem_append.mp h).elim (am_d82_0 q) (am_d82_1 q)) h
theorem am_d105 : ∀ q ∈ am_k105, decode cX6_init q.1 = .ok (q.2.1, q.2.2.1) := fun q h => (fun h => (List.mem_append.mp h).elim (am_d105_0 q) (fun h => (List.mem_append.mp h).elim (am_d105_1 q) (fun h => (List.mem_append.mp h).elim (am_d105_2 q) (fun h => (List.mem_append.mp h).elim (am_d105_3 q) (fun h => (List.mem_append.mp h).elim (am_d105_4 q) (fun h => (List.mem_append.mp h).elim (am_d105_5 q) (fun h => (List.mem_append.mp h).elim (am_d105_6 q) (fun h => (List.mem_append.mp h).elim (am_d105_7 q) (fun h => (List.mem_append.mp h).elim (am_d105_8 q) (fun h => (List.mem_append.mp h).elim (am_d105_9 q) (fun h => (List.mem_append.mp h).elim (am_d105_10 q) (am_d105_11 q)))))))))))) h
theorem am_d111 : ∀ q ∈ am_k111, decode cX6_set q.1 = .ok (q.2.1, q.2.2.1) := fun q h => (fun h => (List.mem_append.mp h).elim (am_d111_0 q) (am_d111_1 q)) h
theorem am_d115 : ∀ q ∈ am_k115, decode cX6_feed q.1 = .ok (q.2.1, q.2.2.1) := fun q h => (fun h => (List.mem_append.mp h).elim (am_d115_0 q) (am_d115_1 q)) h
theorem am_d117 : ∀ q ∈ am_k117, decode cX6_next q.1 = .ok (q.2.1, q.2.2.1) := fun q h => (fun h => (List.mem_append.mp h).elim (am_d117_0 q) (fun h => (List.mem_append.mp h).elim (am_d117_1 q) (fun h => (List.mem_append.mp h).elim (am_d117_2 q) (am_d117_3 q)))) h
theorem am_d125 : ∀ q ∈ am_k125, decode cX6_eRead q.1 = .ok (q.2.1, q.2.2.1) := fun q h => (fun h => (List.mem_append.mp h).elim (am_d125_0 q) (fun h => (List.mem_append.mp h).elim (am_d125_1 q) (am_d125_2 q))) h
theorem am_d126 : ∀ q ∈ am_k126, decode cX6_text q.1 = .ok (q.2.1, q.2.2.1) := fun q h => (fun h => (List.mem_append.mp h).elim (am_d126_0 q) (am_d126_1 q)) h
theorem am_d128 : ∀ q ∈ am_k128, decode cX6_says q.1 = .ok (q.2.1, q.2.2.1) := fun q h => (fun h => (List.mem_append.mp h).elim (am_d128_0 q) (fun h => (List.mem_append.mp h).elim (am_d128_1 q) (am_d128_2 q))) h
theorem am_d130 : ∀ q ∈ am_k130, decode cX6_asksOf q.1 = .ok (q.2.1, q.2.2.1) := fun q h => (fun h => (List.mem_append.mp h).elim (am_d130_0 q) (am_d130_1 q)) h
theorem am_d132 : ∀ q ∈ am_k132, decode cX6_plane q.1 = .ok (q.2.1, q.2.2.1) := fun q h => (fun h => (List.mem_append.mp h).elim (am_d132_0 q) (am_d132_1 q)) h
theorem am_d142 : ∀ q ∈ am_k142, decode cX6_driftsOver q.1 = .ok (q.2.1, q.2.2.1) := fun q h => (fun h => (List.mem_append.mp h).elim (am_d142_0 q) (am_d142_1 q)) h
theorem am_d143 : ∀ q ∈ am_k143, decode cX6_coversOver q.1 = .ok (q.2.1, q.2.2.1) := fun q h => (fun h => (List.mem_append.mp h).elim (am_d143_0 q) (am_d143_1 q)) h
theorem am_d144 : ∀ q ∈ am_k144, decode cX6_click q.1 = .ok (q.2.1, q.2.2.1) := fun q h => (fun h => (List.mem_append.mp h).elim (am_d144_0 q) (am_d144_1 q)) h
theorem am_d145 : ∀ q ∈ am_k145, decode cX6_stripOf q.1 = .ok (q.2.1, q.2.2.1) := fun q h => (fun h => (List.mem_append.mp h).elim (am_d145_0 q) (fun h => (List.mem_append.mp h).elim (am_d145_1 q) (am_d145_2 q))) h
theorem am_d146 : ∀ q ∈ am_k146, decode cX6_flown q.1 = .ok (q.2.1, q.2.2.1) := fun q h => (fun h => (List.mem_append.mp h).elim (am_d146_0 q) (am_d146_1 q)) h
theorem am_d152 : ∀ q ∈ am_k152, decode cX6_again q.1 = .ok (q.2.1, q.2.2.1) := fun q h => (fun h => (List.mem_append.mp h).elim (am_d152_0 q) (am_d152_1 q)) h
theorem am_d153 : ∀ q ∈ am_k153, decode cX6_flownPlanned q.1 = .ok (q.2.1, q.2.2.1) := fun q h => (fun h => (List.mem_append.mp h).elim (am_d153_0 q) (am_d153_1 q)) h
theorem am_d156 : ∀ q ∈ am_k156, decode cX6_seldom q.1 = .ok (q.2.1, q.2.2.1) := fun q h => (fun h => (List.mem_append.mp h).elim (am_d156_0 q) (am_d156_1 q)) h
theorem am_d164 : ∀ q ∈ am_k164, decode cX6_kinds q.1 = .ok (q.2.1, q.2.2.1) := fun q h => (fun h => (List.mem_append.mp h).elim (am_d164_0 q) (fun h => (List.mem_append.mp h).elim (am_d164_1 q) (am_d164_2 q))) h
theorem am_d166 : ∀ q ∈ am_k166, decode cX6_film q.1 = .ok (q.2.1, q.2.2.1) := fun q h => (fun h => (List.mem_append.mp h).elim (am_d166_0 q) (am_d166_1 q)) h
theorem am_d171 : ∀ q ∈ am_k171, decode cX6_image q.1 = .ok (q.2.1, q.2.2.1) := fun q h => (fun h => (List.mem_append.mp h).elim (am_d171_0 q) (am_d171_1 q)) h
theorem am_d172 : ∀ q ∈ am_k172, decode cX6_back q.1 = .ok (q.2.1, q.2.2.1) := fun q h => (fun h => (List.mem_append.mp h).elim (am_d172_0 q) (am_d172_1 q)) h
theorem am_d175 : ∀ q ∈ am_k175, decode cX6_copy q.1 = .ok (q.2.1, q.2.2.1) := fun q h => (fun h => (List.mem_append.mp h).elim (am_d175_0 q) (am_d175_1 q)) h
theorem am_d176 : ∀ q ∈ am_k176, decode cX6_landBy q.1 = .ok (q.2.1, q.2.2.1) := fun q h => (fun h => (List.mem_append.mp h).elim (am_d176_0 q) (am_d176_1 q)) h
theorem am_d178 : ∀ q ∈ am_k178, decode cX6_taken q.1 = .ok (q.2.1, q.2.2.1) := fun q h => (fun h => (List.mem_append.mp h).elim (am_d178_0 q) (am_d178_1 q)) h
theorem am_d179 : ∀ q ∈ am_k179, decode code q.1 = .ok (q.2.1, q.2.2.1) := fun q h => (fun h => (List.mem_append.mp h).elim (am_d179_0 q) (fun h => (List.mem_append.mp h).elim (am_d179_1 q) (fun h => (List.mem_append.mp h).elim (am_d179_2 q) (fun h => (List.mem_append.mp h).elim (am_d179_3 q) (fun h => (List.mem_append.mp h).elim (am_d179_4 q) (fun h => (List.mem_append.mp h).elim (am_d179_5 q) (fun h => (List.mem_append.mp h).elim (am_d179_6 q) (fun h => (List.mem_append.mp h).elim (am_d179_7 q) (fun h => (List.mem_append.mp h).elim (am_d179_8 q) (fun h => (List.mem_append.mp h).elim (am_d179_9 q) (fun h => (List.mem_append.mp h).elim (am_d179_10 q) (fun h => (List.mem_append.mp h).elim (am_d179_11 q) (fun h => (List.mem_append.mp h).elim (am_d179_12 q) (fun h => (List.mem_append.mp h).elim (am_d179_13 q) (fun h => (List.mem_append.mp h).elim (am_d179_14 q) (fun h => (List.mem_append.mp h).elim (am_d179_15 q) (fun h => (List.mem_append.mp h).elim (am_d179_16 q) (fun h => (List.mem_append.mp h).elim (am_d179_17 q) (am_d179_18 q))))))))))))))))))) h
set_option maxRecDepth 20000 in
theorem am_cw0 : Jvm.Cond.code yJ7_fill_53178 cJ7_fill_53178 4 none ∈ wsL_law := List.mem_of_getElem? (i := 559) rfl
set_option maxRecDepth 20000 in
theorem am_cw1 : Jvm.Cond.code yX0_init cX0_init 1 none ∈ wsL_law := List.mem_of_getElem? (i := 49) rfl
set_option maxRecDepth 20000 in
theorem am_cw2 : Jvm.Cond.code yX0_fly cX0_fly 4 none ∈ wsL_law := List.mem_of_getElem? (i := 543) rfl
set_option maxRecDepth 20000 in
theorem am_cw3 : Jvm.Cond.code yX0_flyStrip cX0_flyStrip 15 (some .boolean) ∈ wsL_law := List.mem_of_getElem? (i := 563) rfl
set_option maxRecDepth 20000 in
theorem am_cw4 : Jvm.Cond.code yX0_driftsOver cX0_driftsOver 7 (some .int) ∈ wsL_law := List.mem_of_getElem? (i := 570) rfl
set_option maxRecDepth 20000 in
theorem am_cw5 : Jvm.Cond.code yX0_click cX0_click 11 none ∈ wsL_law := List.mem_of_getElem? (i := 582) rfl
set_option maxRecDepth 20000 in
theorem am_cw6 : Jvm.Cond.code yX0_cover cX0_cover 9 none ∈ wsL_law := List.mem_of_getElem? (i := 589) rfl
set_option maxRecDepth 20000 in
theorem am_cw7 : Jvm.Cond.code yX0_times cX0_times 3 (some .int) ∈ wsL_law := List.mem_of_getElem? (i := 599) rfl
set_option maxRecDepth 20000 in
theorem am_cw8 : Jvm.Cond.code yX0_coveredMiles cX0_coveredMiles 5 (some .int) ∈ wsL_law := List.mem_of_getElem? (i := 595) rfl
set_option maxRecDepth 20000 in
theorem am_cw9 : Jvm.Cond.code yX1_init cX1_init 1 none ∈ wsL_law := List.mem_of_getElem? (i := 116) rfl
set_option maxRecDepth 20000 in
theorem am_cw10 : Jvm.Cond.code yX1_clear cX1_clear 1 none ∈ wsL_law := List.mem_of_getElem? (i := 138) rfl
set_option maxRecDepth 20000 in
theorem am_cw11 : Jvm.Cond.code yX1_add cX1_add 3 none ∈ wsL_law := List.mem_of_getElem? (i := 193) rfl
set_option maxRecDepth 20000 in
theorem am_cw12 : Jvm.Cond.code yX1_endPart cX1_endPart 2 none ∈ wsL_law := List.mem_of_getElem? (i := 214) rfl
set_option maxRecDepth 20000 in
theorem am_cw13 : Jvm.Cond.code yX1_says cX1_says 7 (some .int) ∈ wsL_law := List.mem_of_getElem? (i := 409) rfl
set_option maxRecDepth 20000 in
theorem am_cw14 : Jvm.Cond.code yX1_joined cX1_joined 3 (some .int) ∈ wsL_law := List.mem_of_getElem? (i := 412) rfl
set_option maxRecDepth 20000 in
theorem am_cw15 : Jvm.Cond.code yX2_init cX2_init 4 none ∈ wsL_law := List.mem_of_getElem? (i := 124) rfl
set_option maxRecDepth 20000 in
theorem am_cw16 : Jvm.Cond.code yX2_read cX2_read 2 (some .int) ∈ wsL_law := List.mem_of_getElem? (i := 133) rfl
set_option maxRecDepth 20000 in
theorem am_cw17 : Jvm.Cond.code yX2_refuse cX2_refuse 1 none ∈ wsL_law := List.mem_of_getElem? (i := 182) rfl
set_option maxRecDepth 20000 in
theorem am_cw18 : Jvm.Cond.code yX2_expect cX2_expect 2 none ∈ wsL_law := List.mem_of_getElem? (i := 178) rfl
set_option maxRecDepth 20000 in
theorem am_cw19 : Jvm.Cond.code yX2_readEither cX2_readEither 3 none ∈ wsL_law := List.mem_of_getElem? (i := 186) rfl
set_option maxRecDepth 20000 in
theorem am_cw20 : Jvm.Cond.code yX2_readBoth cX2_readBoth 3 none ∈ wsL_law := List.mem_of_getElem? (i := 194) rfl
set_option maxRecDepth 20000 in
theorem am_cw21 : Jvm.Cond.code yX2_readNot cX2_readNot 3 none ∈ wsL_law := List.mem_of_getElem? (i := 198) rfl
set_option maxRecDepth 20000 in
theorem am_cw22 : Jvm.Cond.code yX2_readSum cX2_readSum 4 none ∈ wsL_law := List.mem_of_getElem? (i := 206) rfl
set_option maxRecDepth 20000 in
theorem am_cw23 : Jvm.Cond.code yX2_readTerm cX2_readTerm 3 none ∈ wsL_law := List.mem_of_getElem? (i := 210) rfl
set_option maxRecDepth 20000 in
theorem am_cw24 : Jvm.Cond.code yX2_readOne cX2_readOne 3 none ∈ wsL_law := List.mem_of_getElem? (i := 202) rfl
set_option maxRecDepth 20000 in
theorem am_cw25 : Jvm.Cond.code yX2_advance cX2_advance 2 none ∈ wsL_law := List.mem_of_getElem? (i := 143) rfl
set_option maxRecDepth 20000 in
theorem am_cw26 : Jvm.Cond.code yX2_readWord cX2_readWord 2 none ∈ wsL_law := List.mem_of_getElem? (i := 157) rfl
set_option maxRecDepth 20000 in
theorem am_cw27 : Jvm.Cond.code yX2_wordNumber cX2_wordNumber 8 (some .int) ∈ wsL_law := List.mem_of_getElem? (i := 162) rfl
set_option maxRecDepth 20000 in
theorem am_cw28 : Jvm.Cond.code yX2_readNumber cX2_readNumber 1 none ∈ wsL_law := List.mem_of_getElem? (i := 171) rfl
set_option maxRecDepth 20000 in
theorem am_cw29 : Jvm.Cond.code yX2_isBlank cX2_isBlank 1 (some .boolean) ∈ wsL_law := List.mem_of_getElem? (i := 150) rfl
set_option maxRecDepth 20000 in
theorem am_cw30 : Jvm.Cond.code yX2_isLetter cX2_isLetter 1 (some .boolean) ∈ wsL_law := List.mem_of_getElem? (i := 153) rfl
set_option maxRecDepth 20000 in
theorem am_cw31 : Jvm.Cond.code yX2_isDigit cX2_isDigit 1 (some .boolean) ∈ wsL_law := List.mem_of_getElem? (i := 167) rfl
set_option maxRecDepth 20000 in
theorem am_cw32 : Jvm.Cond.code yX2_isSign cX2_isSign 1 (some .boolean) ∈ wsL_law := List.mem_of_getElem? (i := 174) rfl
set_option maxRecDepth 20000 in
theorem am_cw33 : Jvm.Cond.code yX3_init cX3_init 1 none ∈ wsL_law := List.mem_of_getElem? (i := 35) rfl
set_option maxRecDepth 20000 in
theorem am_cw34 : Jvm.Cond.code yX3_take cX3_take 2 none ∈ wsL_law := List.mem_of_getElem? (i := 668) rfl
set_option maxRecDepth 20000 in
theorem am_cw35 : Jvm.Cond.code yX3_addStrip cX3_addStrip 3 none ∈ wsL_law := List.mem_of_getElem? (i := 494) rfl
set_option maxRecDepth 20000 in
theorem am_cw36 : Jvm.Cond.code yX3_leaveOut cX3_leaveOut 3 none ∈ wsL_law := List.mem_of_getElem? (i := 511) rfl
set_option maxRecDepth 20000 in
theorem am_cw37 : Jvm.Cond.code yX3_stripNumber cX3_stripNumber 2 (some .int) ∈ wsL_law := List.mem_of_getElem? (i := 507) rfl
set_option maxRecDepth 20000 in
theorem am_cw38 : Jvm.Cond.code yX3_fillNames cX3_fillNames 5 none ∈ wsL_law := List.mem_of_getElem? (i := 403) rfl
set_option maxRecDepth 20000 in
theorem am_cw39 : Jvm.Cond.code yX4_init cX4_init 1 none ∈ wsL_law := List.mem_of_getElem? (i := 216) rfl
set_option maxRecDepth 20000 in
theorem am_cw40 : Jvm.Cond.code yX4_become cX4_become 3 none ∈ wsL_law := List.mem_of_getElem? (i := 806) rfl
set_option maxRecDepth 20000 in
theorem am_cw41 : Jvm.Cond.code yX4_write cX4_write 3 none ∈ wsL_law := List.mem_of_getElem? (i := 812) rfl
set_option maxRecDepth 20000 in
theorem am_cw42 : Jvm.Cond.code yX4_hasRoom cX4_hasRoom 3 (some .boolean) ∈ wsL_law := List.mem_of_getElem? (i := 896) rfl
set_option maxRecDepth 20000 in
theorem am_cw43 : Jvm.Cond.code yX5_init cX5_init 2 none ∈ wsL_law := List.mem_of_getElem? (i := 8) rfl
set_option maxRecDepth 20000 in
theorem am_cw44 : Jvm.Cond.code yX5_firstLaw cX5_firstLaw 3 (some (.object "StripsFromAbove$Law")) ∈ wsL_law := List.mem_of_getElem? (i := 55) rfl
set_option maxRecDepth 20000 in
theorem am_cw45 : Jvm.Cond.code yX5_count cX5_count 2 (some .int) ∈ wsL_law := List.mem_of_getElem? (i := 311) rfl
set_option maxRecDepth 20000 in
theorem am_cw46 : Jvm.Cond.code yX5_set cX5_set 4 (some .int) ∈ wsL_law := List.mem_of_getElem? (i := 330) rfl
set_option maxRecDepth 20000 in
theorem am_cw47 : Jvm.Cond.code yX5_land cX5_land 6 (some .int) ∈ wsL_law := List.mem_of_getElem? (i := 342) rfl
set_option maxRecDepth 20000 in
theorem am_cw48 : Jvm.Cond.code yX5_mile cX5_mile 3 (some .int) ∈ wsL_law := List.mem_of_getElem? (i := 363) rfl
set_option maxRecDepth 20000 in
theorem am_cw49 : Jvm.Cond.code yX5_feed cX5_feed 7 (some .int) ∈ wsL_law := List.mem_of_getElem? (i := 368) rfl
set_option maxRecDepth 20000 in
theorem am_cw50 : Jvm.Cond.code yX5_text cX5_text 3 (some .int) ∈ wsL_law := List.mem_of_getElem? (i := 382) rfl
set_option maxRecDepth 20000 in
theorem am_cw51 : Jvm.Cond.code yX5_force cX5_force 3 (some .int) ∈ wsL_law := List.mem_of_getElem? (i := 391) rfl
set_option maxRecDepth 20000 in
theorem am_cw52 : Jvm.Cond.code yX5_asks cX5_asks 6 (some .int) ∈ wsL_law := List.mem_of_getElem? (i := 399) rfl
set_option maxRecDepth 20000 in
theorem am_cw53 : Jvm.Cond.code yX5_plane cX5_plane 4 (some .int) ∈ wsL_law := List.mem_of_getElem? (i := 440) rfl
set_option maxRecDepth 20000 in
theorem am_cw54 : Jvm.Cond.code yX5_load cX5_load 7 (some .int) ∈ wsL_law := List.mem_of_getElem? (i := 453) rfl
set_option maxRecDepth 20000 in
theorem am_cw55 : Jvm.Cond.code yX5_told cX5_told 3 (some .int) ∈ wsL_law := List.mem_of_getElem? (i := 461) rfl
set_option maxRecDepth 20000 in
theorem am_cw56 : Jvm.Cond.code yX5_strip cX5_strip 3 (some .int) ∈ wsL_law := List.mem_of_getElem? (i := 487) rfl
set_option maxRecDepth 20000 in
theorem am_cw57 : Jvm.Cond.code yX5_drop cX5_drop 3 (some .int) ∈ wsL_law := List.mem_of_getElem? (i := 503) rfl
set_option maxRecDepth 20000 in
theorem am_cw58 : Jvm.Cond.code yX5_planned cX5_planned 2 (some .int) ∈ wsL_law := List.mem_of_getElem? (i := 523) rfl
set_option maxRecDepth 20000 in
theorem am_cw59 : Jvm.Cond.code yX5_flight cX5_flight 2 (some .int) ∈ wsL_law := List.mem_of_getElem? (i := 531) rfl
set_option maxRecDepth 20000 in
theorem am_cw60 : Jvm.Cond.code yX5_seen cX5_seen 2 (some .int) ∈ wsL_law := List.mem_of_getElem? (i := 640) rfl
set_option maxRecDepth 20000 in
theorem am_cw61 : Jvm.Cond.code yX5_gap cX5_gap 4 (some .int) ∈ wsL_law := List.mem_of_getElem? (i := 649) rfl
set_option maxRecDepth 20000 in
theorem am_cw62 : Jvm.Cond.code yX5_spare cX5_spare 4 (some .int) ∈ wsL_law := List.mem_of_getElem? (i := 657) rfl
set_option maxRecDepth 20000 in
theorem am_cw63 : Jvm.Cond.code yX5_again cX5_again 7 (some .int) ∈ wsL_law := List.mem_of_getElem? (i := 682) rfl
set_option maxRecDepth 20000 in
theorem am_cw64 : Jvm.Cond.code yX5_apart cX5_apart 6 (some .int) ∈ wsL_law := List.mem_of_getElem? (i := 690) rfl
set_option maxRecDepth 20000 in
theorem am_cw65 : Jvm.Cond.code yX5_begin cX5_begin 8 (some .int) ∈ wsL_law := List.mem_of_getElem? (i := 706) rfl
set_option maxRecDepth 20000 in
theorem am_cw66 : Jvm.Cond.code yX5_seldom cX5_seldom 4 (some .int) ∈ wsL_law := List.mem_of_getElem? (i := 714) rfl
set_option maxRecDepth 20000 in
theorem am_cw67 : Jvm.Cond.code yX5_who cX5_who 6 (some .int) ∈ wsL_law := List.mem_of_getElem? (i := 722) rfl
set_option maxRecDepth 20000 in
theorem am_cw68 : Jvm.Cond.code yX5_when cX5_when 6 (some .int) ∈ wsL_law := List.mem_of_getElem? (i := 730) rfl
set_option maxRecDepth 20000 in
theorem am_cw69 : Jvm.Cond.code yX5_tuft cX5_tuft 4 (some .int) ∈ wsL_law := List.mem_of_getElem? (i := 738) rfl
set_option maxRecDepth 20000 in
theorem am_cw70 : Jvm.Cond.code yX5_judge cX5_judge 4 (some .int) ∈ wsL_law := List.mem_of_getElem? (i := 747) rfl
set_option maxRecDepth 20000 in
theorem am_cw71 : Jvm.Cond.code yX5_winds cX5_winds 6 (some .int) ∈ wsL_law := List.mem_of_getElem? (i := 778) rfl
set_option maxRecDepth 20000 in
theorem am_cw72 : Jvm.Cond.code yX5_kinds cX5_kinds 9 (some .int) ∈ wsL_law := List.mem_of_getElem? (i := 786) rfl
set_option maxRecDepth 20000 in
theorem am_cw73 : Jvm.Cond.code yX5_laws cX5_laws 6 (some .int) ∈ wsL_law := List.mem_of_getElem? (i := 794) rfl
set_option maxRecDepth 20000 in
theorem am_cw74 : Jvm.Cond.code yX5_film cX5_film 7 (some .int) ∈ wsL_law := List.mem_of_getElem? (i := 802) rfl
set_option maxRecDepth 20000 in
theorem am_cw75 : Jvm.Cond.code yX5_drawn cX5_drawn 3 (some .int) ∈ wsL_law := List.mem_of_getElem? (i := 820) rfl
set_option maxRecDepth 20000 in
theorem am_cw76 : Jvm.Cond.code yX5_odds cX5_odds 9 (some .long) ∈ wsL_law := List.mem_of_getElem? (i := 844) rfl
set_option maxRecDepth 20000 in
theorem am_cw77 : Jvm.Cond.code yX5_image cX5_image 1 (some .int) ∈ wsL_law := List.mem_of_getElem? (i := 857) rfl
set_option maxRecDepth 20000 in
theorem am_cw78 : Jvm.Cond.code yX5_back cX5_back 1 (some .int) ∈ wsL_law := List.mem_of_getElem? (i := 867) rfl
set_option maxRecDepth 20000 in
theorem am_cw79 : Jvm.Cond.code yX5_sheet cX5_sheet 5 (some .int) ∈ wsL_law := List.mem_of_getElem? (i := 875) rfl
set_option maxRecDepth 20000 in
theorem am_cw80 : Jvm.Cond.code yX5_cell cX5_cell 5 (some .int) ∈ wsL_law := List.mem_of_getElem? (i := 883) rfl
set_option maxRecDepth 20000 in
theorem am_cw81 : Jvm.Cond.code yX5_copy cX5_copy 8 (some .int) ∈ wsL_law := List.mem_of_getElem? (i := 891) rfl
set_option maxRecDepth 20000 in
theorem am_cw82 : Jvm.Cond.code yX5_landBy cX5_landBy 10 (some .int) ∈ wsL_law := List.mem_of_getElem? (i := 904) rfl
set_option maxRecDepth 20000 in
theorem am_cw83 : Jvm.Cond.code yX5_taken cX5_taken 3 (some .int) ∈ wsL_law := List.mem_of_getElem? (i := 913) rfl
set_option maxRecDepth 20000 in
theorem am_cw84 : Jvm.Cond.code yX5_isPlane cX5_isPlane 2 (some .boolean) ∈ wsL_law := List.mem_of_getElem? (i := 334) rfl
set_option maxRecDepth 20000 in
theorem am_cw85 : Jvm.Cond.code yX5_isMile cX5_isMile 1 (some .boolean) ∈ wsL_law := List.mem_of_getElem? (i := 347) rfl
set_option maxRecDepth 20000 in
theorem am_cw86 : Jvm.Cond.code yX5_isByte cX5_isByte 1 (some .boolean) ∈ wsL_law := List.mem_of_getElem? (i := 371) rfl
set_option maxRecDepth 20000 in
theorem am_cw87 : Jvm.Cond.code yX5_isHalf cX5_isHalf 1 (some .boolean) ∈ wsL_law := List.mem_of_getElem? (i := 660) rfl
set_option maxRecDepth 20000 in
theorem am_cw88 : Jvm.Cond.code yX5_lawAt cX5_lawAt 2 (some (.object "StripsFromAbove$Law")) ∈ wsL_law := List.mem_of_getElem? (i := 386) rfl
set_option maxRecDepth 20000 in
theorem am_cw89 : Jvm.Cond.code yX5_sheetAt cX5_sheetAt 2 (some (.object "StripsFromAbove$Sheet")) ∈ wsL_law := List.mem_of_getElem? (i := 757) rfl
set_option maxRecDepth 20000 in
theorem am_cw90 : Jvm.Cond.code yX5_flyNow cX5_flyNow 1 none ∈ wsL_law := List.mem_of_getElem? (i := 539) rfl
set_option maxRecDepth 20000 in
theorem am_cw91 : Jvm.Cond.code yX5_coveredBy cX5_coveredBy 2 (some .int) ∈ wsL_law := List.mem_of_getElem? (i := 664) rfl
set_option maxRecDepth 20000 in
theorem am_cw92 : Jvm.Cond.code yX5_planIn cX5_planIn 7 none ∈ wsL_law := List.mem_of_getElem? (i := 694) rfl
set_option maxRecDepth 20000 in
theorem am_cw93 : Jvm.Cond.code yX5_drawClouds cX5_drawClouds 6 none ∈ wsL_law := List.mem_of_getElem? (i := 825) rfl
set_option maxRecDepth 20000 in
theorem am_cw94 : Jvm.Cond.code yX5_refusalOf cX5_refusalOf 4 (some .int) ∈ wsL_law := List.mem_of_getElem? (i := 751) rfl
set_option maxRecDepth 20000 in
theorem am_cw95 : Jvm.Cond.code yX5_firstOtherwise cX5_firstOtherwise 6 (some .int) ∈ wsL_law := List.mem_of_getElem? (i := 761) rfl
set_option maxRecDepth 20000 in
theorem am_cw96 : Jvm.Cond.code yX5_at cX5_at 2 (some .int) ∈ wsL_law := List.mem_of_getElem? (i := 147) rfl
set_option maxRecDepth 20000 in
theorem am_cw97 : Jvm.Cond.code yX5_put cX5_put 3 none ∈ wsL_law := List.mem_of_getElem? (i := 114) rfl
set_option maxRecDepth 20000 in
theorem am_cw98 : Jvm.Cond.code yX5_bounded cX5_bounded 3 (some .int) ∈ wsL_law := List.mem_of_getElem? (i := 414) rfl
set_option maxRecDepth 20000 in
theorem am_cw99 : Jvm.Cond.code yX5_linesOf cX5_linesOf 1 (some .int) ∈ wsL_law := List.mem_of_getElem? (i := 490) rfl
set_option maxRecDepth 20000 in
theorem am_cw100 : Jvm.Cond.code yX5_isOfKind cX5_isOfKind 4 (some .boolean) ∈ wsL_law := List.mem_of_getElem? (i := 467) rfl
set_option maxRecDepth 20000 in
theorem am_cw101 : Jvm.Cond.code yX5_seesAside cX5_seesAside 4 (some .int) ∈ wsL_law := List.mem_of_getElem? (i := 585) rfl
set_option maxRecDepth 20000 in
theorem am_cw102 : Jvm.Cond.code yX5_driftsAside cX5_driftsAside 4 (some .int) ∈ wsL_law := List.mem_of_getElem? (i := 574) rfl
set_option maxRecDepth 20000 in
theorem am_cw103 : Jvm.Cond.code yX5_mileMinutes cX5_mileMinutes 1 (some .int) ∈ wsL_law := List.mem_of_getElem? (i := 464) rfl
set_option maxRecDepth 20000 in
theorem am_cw104 : Jvm.Cond.code yX5_turnMinutes cX5_turnMinutes 2 (some .int) ∈ wsL_law := List.mem_of_getElem? (i := 471) rfl
set_option maxRecDepth 20000 in
theorem am_cw105 : Jvm.Cond.code yX6_init cX6_init 2 none ∈ wsL_law := List.mem_of_getElem? (i := 222) rfl
set_option maxRecDepth 20000 in
theorem am_cw106 : Jvm.Cond.code yX6_in cX6_in 3 (some .boolean) ∈ wsL_law := List.mem_of_getElem? (i := 269) rfl
set_option maxRecDepth 20000 in
theorem am_cw107 : Jvm.Cond.code yX6_within cX6_within 3 (some .int) ∈ wsL_law := List.mem_of_getElem? (i := 436) rfl
set_option maxRecDepth 20000 in
theorem am_cw108 : Jvm.Cond.code yX6_isPlane cX6_isPlane 2 (some .boolean) ∈ wsL_law := List.mem_of_getElem? (i := 422) rfl
set_option maxRecDepth 20000 in
theorem am_cw109 : Jvm.Cond.code yX6_isMile cX6_isMile 1 (some .boolean) ∈ wsL_law := List.mem_of_getElem? (i := 355) rfl
set_option maxRecDepth 20000 in
theorem am_cw110 : Jvm.Cond.code yX6_count cX6_count 2 (some .int) ∈ wsL_law := List.mem_of_getElem? (i := 322) rfl
set_option maxRecDepth 20000 in
theorem am_cw111 : Jvm.Cond.code yX6_set cX6_set 4 (some .int) ∈ wsL_law := List.mem_of_getElem? (i := 338) rfl
set_option maxRecDepth 20000 in
theorem am_cw112 : Jvm.Cond.code yX6_land cX6_land 5 (some .int) ∈ wsL_law := List.mem_of_getElem? (i := 352) rfl
set_option maxRecDepth 20000 in
theorem am_cw113 : Jvm.Cond.code yX6_mile cX6_mile 3 (some .int) ∈ wsL_law := List.mem_of_getElem? (i := 359) rfl
set_option maxRecDepth 20000 in
theorem am_cw114 : Jvm.Cond.code yX6_isByte cX6_isByte 1 (some .boolean) ∈ wsL_law := List.mem_of_getElem? (i := 378) rfl
set_option maxRecDepth 20000 in
theorem am_cw115 : Jvm.Cond.code yX6_feed cX6_feed 8 (some .int) ∈ wsL_law := List.mem_of_getElem? (i := 375) rfl
set_option maxRecDepth 20000 in
theorem am_cw116 : Jvm.Cond.code yX6_wordFrom cX6_wordFrom 6 (some .int) ∈ wsL_law := List.mem_of_getElem? (i := 273) rfl
set_option maxRecDepth 20000 in
theorem am_cw117 : Jvm.Cond.code yX6_next cX6_next 3 none ∈ wsL_law := List.mem_of_getElem? (i := 266) rfl
set_option maxRecDepth 20000 in
theorem am_cw118 : Jvm.Cond.code yX6_rank cX6_rank 1 (some .int) ∈ wsL_law := List.mem_of_getElem? (i := 291) rfl
set_option maxRecDepth 20000 in
theorem am_cw119 : Jvm.Cond.code yX6_puts cX6_puts 2 none ∈ wsL_law := List.mem_of_getElem? (i := 284) rfl
set_option maxRecDepth 20000 in
theorem am_cw120 : Jvm.Cond.code yX6_unwinds cX6_unwinds 3 none ∈ wsL_law := List.mem_of_getElem? (i := 288) rfl
set_option maxRecDepth 20000 in
theorem am_cw121 : Jvm.Cond.code yX6_holds cX6_holds 2 none ∈ wsL_law := List.mem_of_getElem? (i := 299) rfl
set_option maxRecDepth 20000 in
theorem am_cw122 : Jvm.Cond.code yX6_opensOne cX6_opensOne 2 (some .boolean) ∈ wsL_law := List.mem_of_getElem? (i := 295) rfl
set_option maxRecDepth 20000 in
theorem am_cw123 : Jvm.Cond.code yX6_between cX6_between 2 (some .boolean) ∈ wsL_law := List.mem_of_getElem? (i := 307) rfl
set_option maxRecDepth 20000 in
theorem am_cw124 : Jvm.Cond.code yX6_signOf cX6_signOf 1 (some .int) ∈ wsL_law := List.mem_of_getElem? (i := 303) rfl
set_option maxRecDepth 20000 in
theorem am_cw125 : Jvm.Cond.code yX6_eRead cX6_eRead 4 (some .boolean) ∈ wsL_law := List.mem_of_getElem? (i := 277) rfl
set_option maxRecDepth 20000 in
theorem am_cw126 : Jvm.Cond.code yX6_text cX6_text 3 (some .int) ∈ wsL_law := List.mem_of_getElem? (i := 256) rfl
set_option maxRecDepth 20000 in
theorem am_cw127 : Jvm.Cond.code yX6_two cX6_two 3 (some .int) ∈ wsL_law := List.mem_of_getElem? (i := 433) rfl
set_option maxRecDepth 20000 in
theorem am_cw128 : Jvm.Cond.code yX6_says cX6_says 5 (some .int) ∈ wsL_law := List.mem_of_getElem? (i := 430) rfl
set_option maxRecDepth 20000 in
theorem am_cw129 : Jvm.Cond.code yX6_force cX6_force 3 (some .int) ∈ wsL_law := List.mem_of_getElem? (i := 395) rfl
set_option maxRecDepth 20000 in
theorem am_cw130 : Jvm.Cond.code yX6_asksOf cX6_asksOf 5 (some .int) ∈ wsL_law := List.mem_of_getElem? (i := 426) rfl
set_option maxRecDepth 20000 in
theorem am_cw131 : Jvm.Cond.code yX6_asks cX6_asks 5 (some .int) ∈ wsL_law := List.mem_of_getElem? (i := 418) rfl
set_option maxRecDepth 20000 in
theorem am_cw132 : Jvm.Cond.code yX6_plane cX6_plane 3 (some .int) ∈ wsL_law := List.mem_of_getElem? (i := 449) rfl
set_option maxRecDepth 20000 in
theorem am_cw133 : Jvm.Cond.code yX6_load cX6_load 5 (some .int) ∈ wsL_law := List.mem_of_getElem? (i := 457) rfl
set_option maxRecDepth 20000 in
theorem am_cw134 : Jvm.Cond.code yX6_mileOf cX6_mileOf 2 (some .int) ∈ wsL_law := List.mem_of_getElem? (i := 479) rfl
set_option maxRecDepth 20000 in
theorem am_cw135 : Jvm.Cond.code yX6_turnOf cX6_turnOf 2 (some .int) ∈ wsL_law := List.mem_of_getElem? (i := 483) rfl
set_option maxRecDepth 20000 in
theorem am_cw136 : Jvm.Cond.code yX6_told cX6_told 3 (some .int) ∈ wsL_law := List.mem_of_getElem? (i := 475) rfl
set_option maxRecDepth 20000 in
theorem am_cw137 : Jvm.Cond.code yX6_strip cX6_strip 3 (some .int) ∈ wsL_law := List.mem_of_getElem? (i := 499) rfl
set_option maxRecDepth 20000 in
theorem am_cw138 : Jvm.Cond.code yX6_isStrip cX6_isStrip 2 (some .boolean) ∈ wsL_law := List.mem_of_getElem? (i := 519) rfl
set_option maxRecDepth 20000 in
theorem am_cw139 : Jvm.Cond.code yX6_drop cX6_drop 4 (some .int) ∈ wsL_law := List.mem_of_getElem? (i := 515) rfl
set_option maxRecDepth 20000 in
theorem am_cw140 : Jvm.Cond.code yX6_planned cX6_planned 2 (some .int) ∈ wsL_law := List.mem_of_getElem? (i := 527) rfl
set_option maxRecDepth 20000 in
theorem am_cw141 : Jvm.Cond.code yX6_seesOver cX6_seesOver 5 (some .int) ∈ wsL_law := List.mem_of_getElem? (i := 632) rfl
set_option maxRecDepth 20000 in
theorem am_cw142 : Jvm.Cond.code yX6_driftsOver cX6_driftsOver 5 (some .int) ∈ wsL_law := List.mem_of_getElem? (i := 620) rfl
set_option maxRecDepth 20000 in
theorem am_cw143 : Jvm.Cond.code yX6_coversOver cX6_coversOver 10 none ∈ wsL_law := List.mem_of_getElem? (i := 628) rfl
set_option maxRecDepth 20000 in
theorem am_cw144 : Jvm.Cond.code yX6_click cX6_click 8 none ∈ wsL_law := List.mem_of_getElem? (i := 624) rfl
set_option maxRecDepth 20000 in
theorem am_cw145 : Jvm.Cond.code yX6_stripOf cX6_stripOf 11 none ∈ wsL_law := List.mem_of_getElem? (i := 616) rfl
set_option maxRecDepth 20000 in
theorem am_cw146 : Jvm.Cond.code yX6_flown cX6_flown 3 (some .int) ∈ wsL_law := List.mem_of_getElem? (i := 611) rfl
set_option maxRecDepth 20000 in
theorem am_cw147 : Jvm.Cond.code yX6_atLeast cX6_atLeast 4 (some .int) ∈ wsL_law := List.mem_of_getElem? (i := 636) rfl
set_option maxRecDepth 20000 in
theorem am_cw148 : Jvm.Cond.code yX6_flight cX6_flight 3 (some .int) ∈ wsL_law := List.mem_of_getElem? (i := 603) rfl
set_option maxRecDepth 20000 in
theorem am_cw149 : Jvm.Cond.code yX6_seen cX6_seen 2 (some .int) ∈ wsL_law := List.mem_of_getElem? (i := 645) rfl
set_option maxRecDepth 20000 in
theorem am_cw150 : Jvm.Cond.code yX6_gap cX6_gap 4 (some .int) ∈ wsL_law := List.mem_of_getElem? (i := 653) rfl
set_option maxRecDepth 20000 in
theorem am_cw151 : Jvm.Cond.code yX6_spare cX6_spare 6 (some .int) ∈ wsL_law := List.mem_of_getElem? (i := 678) rfl
set_option maxRecDepth 20000 in
theorem am_cw152 : Jvm.Cond.code yX6_again cX6_again 8 (some .int) ∈ wsL_law := List.mem_of_getElem? (i := 686) rfl
set_option maxRecDepth 20000 in
theorem am_cw153 : Jvm.Cond.code yX6_flownPlanned cX6_flownPlanned 7 (some .int) ∈ wsL_law := List.mem_of_getElem? (i := 702) rfl
set_option maxRecDepth 20000 in
theorem am_cw154 : Jvm.Cond.code yX6_apart cX6_apart 6 (some .int) ∈ wsL_law := List.mem_of_getElem? (i := 698) rfl
set_option maxRecDepth 20000 in
theorem am_cw155 : Jvm.Cond.code yX6_begin cX6_begin 7 (some .int) ∈ wsL_law := List.mem_of_getElem? (i := 710) rfl
set_option maxRecDepth 20000 in
theorem am_cw156 : Jvm.Cond.code yX6_seldom cX6_seldom 8 (some .int) ∈ wsL_law := List.mem_of_getElem? (i := 718) rfl
set_option maxRecDepth 20000 in
theorem am_cw157 : Jvm.Cond.code yX6_who cX6_who 7 (some .int) ∈ wsL_law := List.mem_of_getElem? (i := 726) rfl
set_option maxRecDepth 20000 in
theorem am_cw158 : Jvm.Cond.code yX6_when cX6_when 7 (some .int) ∈ wsL_law := List.mem_of_getElem? (i := 734) rfl
set_option maxRecDepth 20000 in
theorem am_cw159 : Jvm.Cond.code yX6_tuft cX6_tuft 6 (some .int) ∈ wsL_law := List.mem_of_getElem? (i := 743) rfl
set_option maxRecDepth 20000 in
theorem am_cw160 : Jvm.Cond.code yX6_toldWrong cX6_toldWrong 3 (some .int) ∈ wsL_law := List.mem_of_getElem? (i := 770) rfl
set_option maxRecDepth 20000 in
theorem am_cw161 : Jvm.Cond.code yX6_unlike cX6_unlike 4 (some .int) ∈ wsL_law := List.mem_of_getElem? (i := 774) rfl
set_option maxRecDepth 20000 in
theorem am_cw162 : Jvm.Cond.code yX6_judge cX6_judge 4 (some .int) ∈ wsL_law := List.mem_of_getElem? (i := 766) rfl
set_option maxRecDepth 20000 in
theorem am_cw163 : Jvm.Cond.code yX6_winds cX6_winds 7 (some .int) ∈ wsL_law := List.mem_of_getElem? (i := 782) rfl
set_option maxRecDepth 20000 in
theorem am_cw164 : Jvm.Cond.code yX6_kinds cX6_kinds 11 (some .int) ∈ wsL_law := List.mem_of_getElem? (i := 790) rfl
set_option maxRecDepth 20000 in
theorem am_cw165 : Jvm.Cond.code yX6_laws cX6_laws 7 (some .int) ∈ wsL_law := List.mem_of_getElem? (i := 798) rfl
set_option maxRecDepth 20000 in
theorem am_cw166 : Jvm.Cond.code yX6_film cX6_film 6 (some .int) ∈ wsL_law := List.mem_of_getElem? (i := 816) rfl
set_option maxRecDepth 20000 in
theorem am_cw167 : Jvm.Cond.code yX6_flownBy cX6_flownBy 7 (some .int) ∈ wsL_law := List.mem_of_getElem? (i := 837) rfl
set_option maxRecDepth 20000 in
theorem am_cw168 : Jvm.Cond.code yX6_drawn cX6_drawn 3 (some .int) ∈ wsL_law := List.mem_of_getElem? (i := 832) rfl
set_option maxRecDepth 20000 in
theorem am_cw169 : Jvm.Cond.code yX6_lowest cX6_lowest 11 (some .long) ∈ wsL_law := List.mem_of_getElem? (i := 853) rfl
set_option maxRecDepth 20000 in
theorem am_cw170 : Jvm.Cond.code yX6_odds cX6_odds 9 (some .long) ∈ wsL_law := List.mem_of_getElem? (i := 849) rfl
set_option maxRecDepth 20000 in
theorem am_cw171 : Jvm.Cond.code yX6_image cX6_image 2 (some .int) ∈ wsL_law := List.mem_of_getElem? (i := 862) rfl
set_option maxRecDepth 20000 in
theorem am_cw172 : Jvm.Cond.code yX6_back cX6_back 2 (some .int) ∈ wsL_law := List.mem_of_getElem? (i := 871) rfl
set_option maxRecDepth 20000 in
theorem am_cw173 : Jvm.Cond.code yX6_sheet cX6_sheet 5 (some .int) ∈ wsL_law := List.mem_of_getElem? (i := 879) rfl
set_option maxRecDepth 20000 in
theorem am_cw174 : Jvm.Cond.code yX6_cell cX6_cell 4 (some .int) ∈ wsL_law := List.mem_of_getElem? (i := 887) rfl
set_option maxRecDepth 20000 in
theorem am_cw175 : Jvm.Cond.code yX6_copy cX6_copy 10 (some .int) ∈ wsL_law := List.mem_of_getElem? (i := 900) rfl
set_option maxRecDepth 20000 in
theorem am_cw176 : Jvm.Cond.code yX6_landBy cX6_landBy 9 (some .int) ∈ wsL_law := List.mem_of_getElem? (i := 908) rfl
set_option maxRecDepth 20000 in
theorem am_cw177 : Jvm.Cond.code yX6_isUnder cX6_isUnder 2 (some .boolean) ∈ wsL_law := List.mem_of_getElem? (i := 920) rfl
set_option maxRecDepth 20000 in
theorem am_cw178 : Jvm.Cond.code yX6_taken cX6_taken 3 (some .int) ∈ wsL_law := List.mem_of_getElem? (i := 917) rfl
def am_M0 : List MR := [am_m0, am_m1, am_m2, am_m3, am_m4, am_m5, am_m6, am_m7, am_m8, am_m9, am_m10, am_m11, am_m12, am_m13, am_m14, am_m15, am_m16, am_m17, am_m18, am_m19, am_m20, am_m21, am_m22, am_m23, am_m24, am_m25, am_m26, am_m27, am_m28, am_m29]
set_option maxRecDepth 20000 in
theorem am_fa0 : ∀ r ∈ am_M0, (∀ q ∈ r.1, decode r.2.2.1 q.1 = .ok (q.2.1, q.2.2.1)) ∧ okR r = true ∧ okMR r = true ∧ Jvm.Cond.code r.2.1 r.2.2.1 r.2.2.2.1 r.2.2.2.2.1 ∈ wsL_law := List.forall_mem_cons.mpr ⟨⟨am_d0, am_o0, am_p0, am_cw0⟩, List.forall_mem_cons.mpr ⟨⟨am_d1, am_o1, am_p1, am_cw1⟩, List.forall_mem_cons.mpr ⟨⟨am_d2, am_o2, am_p2, am_cw2⟩, List.forall_mem_cons.mpr ⟨⟨am_d3, am_o3, am_p3, am_cw3⟩, List.forall_mem_cons.mpr ⟨⟨am_d4, am_o4, am_p4, am_cw4⟩, List.forall_mem_cons.mpr ⟨⟨am_d5, am_o5, am_p5, am_cw5⟩, List.forall_mem_cons.mpr ⟨⟨am_d6, am_o6, am_p6, am_cw6⟩, List.forall_mem_cons.mpr ⟨⟨am_d7, am_o7, am_p7, am_cw7⟩, List.forall_mem_cons.mpr ⟨⟨am_d8, am_o8, am_p8, am_cw8⟩, List.forall_mem_cons.mpr ⟨⟨am_d9, am_o9, am_p9, am_cw9⟩, List.forall_mem_cons.mpr ⟨⟨am_d10, am_o10, am_p10, am_cw10⟩, List.forall_mem_cons.mpr ⟨⟨am_d11, am_o11, am_p11, am_cw11⟩, List.forall_mem_cons.mpr ⟨⟨am_d12, am_o12, am_p12, am_cw12⟩, List.forall_mem_cons.mpr ⟨⟨am_d13, am_o13, am_p13, am_cw13⟩, List.forall_mem_cons.mpr ⟨⟨am_d14, am_o14, am_p14, am_cw14⟩, List.forall_mem_cons.mpr ⟨⟨am_d15, am_o15, am_p15, am_cw15⟩, List.forall_mem_cons.mpr ⟨⟨am_d16, am_o16, am_p16, am_cw16⟩, List.forall_mem_cons.mpr ⟨⟨am_d17, am_o17, am_p17, am_cw17⟩, List.forall_mem_cons.mpr ⟨⟨am_d18, am_o18, am_p18, am_cw18⟩, List.forall_mem_cons.mpr ⟨⟨am_d19, am_o19, am_p19, am_cw19⟩, List.forall_mem_cons.mpr ⟨⟨am_d20, am_o20, am_p20, am_cw20⟩, List.forall_mem_cons.mpr ⟨⟨am_d21, am_o21, am_p21, am_cw21⟩, List.forall_mem_cons.mpr ⟨⟨am_d22, am_o22, am_p22, am_cw22⟩, List.forall_mem_cons.mpr ⟨⟨am_d23, am_o23, am_p23, am_cw23⟩, List.forall_mem_cons.mpr ⟨⟨am_d24, am_o24, am_p24, am_cw24⟩, List.forall_mem_cons.mpr ⟨⟨am_d25, am_o25, am_p25, am_cw25⟩, List.forall_mem_cons.mpr ⟨⟨am_d26, am_o26, am_p26, am_cw26⟩, List.forall_mem_cons.mpr ⟨⟨am_d27, am_o27, am_p27, am_cw27⟩, List.forall_mem_cons.mpr ⟨⟨am_d28, am_o28, am_p28, am_cw28⟩, List.forall_mem_cons.mpr ⟨⟨am_d29, am_o29, am_p29, am_cw29⟩, (fun _ h => absurd h List.not_mem_nil)⟩⟩⟩⟩⟩⟩⟩⟩⟩⟩⟩⟩⟩⟩⟩⟩⟩⟩⟩⟩⟩⟩⟩⟩⟩⟩⟩⟩⟩⟩
def am_M1 : List MR := [am_m30, am_m31, am_m32, am_m33, am_m34, am_m35, am_m36, am_m37, am_m38, am_m39, am_m40, am_m41, am_m42, am_m43, am_m44, am_m45, am_m46, am_m47, am_m48, am_m49, am_m50, am_m51, am_m52, am_m53, am_m54, am_m55, am_m56, am_m57, am_m58, am_m59]
set_option maxRecDepth 20000 in
theorem am_fa1 : ∀ r ∈ am_M1, (∀ q ∈ r.1, decode r.2.2.1 q.1 = .ok (q.2.1, q.2.2.1)) ∧ okR r = true ∧ okMR r = true ∧ Jvm.Cond.code r.2.1 r.2.2.1 r.2.2.2.1 r.2.2.2.2.1 ∈ wsL_law := List.forall_mem_cons.mpr ⟨⟨am_d30, am_o30, am_p30, am_cw30⟩, List.forall_mem_cons.mpr ⟨⟨am_d31, am_o31, am_p31, am_cw31⟩, List.forall_mem_cons.mpr ⟨⟨am_d32, am_o32, am_p32, am_cw32⟩, List.forall_mem_cons.mpr ⟨⟨am_d33, am_o33, am_p33, am_cw33⟩, List.forall_mem_cons.mpr ⟨⟨am_d34, am_o34, am_p34, am_cw34⟩, List.forall_mem_cons.mpr ⟨⟨am_d35, am_o35, am_p35, am_cw35⟩, List.forall_mem_cons.mpr ⟨⟨am_d36, am_o36, am_p36, am_cw36⟩, List.forall_mem_cons.mpr ⟨⟨am_d37, am_o37, am_p37, am_cw37⟩, List.forall_mem_cons.mpr ⟨⟨am_d38, am_o38, am_p38, am_cw38⟩, List.forall_mem_cons.mpr ⟨⟨am_d39, am_o39, am_p39, am_cw39⟩, List.forall_mem_cons.mpr ⟨⟨am_d40, am_o40, am_p40, am_cw40⟩, List.forall_mem_cons.mpr ⟨⟨am_d41, am_o41, am_p41, am_cw41⟩, List.forall_mem_cons.mpr ⟨⟨am_d42, am_o42, am_p42, am_cw42⟩, List.forall_mem_cons.mpr ⟨⟨am_d43, am_o43, am_p43, am_cw43⟩, List.forall_mem_cons.mpr ⟨⟨am_d44, am_o44, am_p44, am_cw44⟩, List.forall_mem_cons.mpr ⟨⟨am_d45, am_o45, am_p45, am_cw45⟩, List.forall_mem_cons.mpr ⟨⟨am_d46, am_o46, am_p46, am_cw46⟩, List.forall_mem_cons.mpr ⟨⟨am_d47, am_o47, am_p47, am_cw47⟩, List.forall_mem_cons.mpr ⟨⟨am_d48, am_o48, am_p48, am_cw48⟩, List.forall_mem_cons.mpr ⟨⟨am_d49, am_o49, am_p49, am_cw49⟩, List.forall_mem_cons.mpr ⟨⟨am_d50, am_o50, am_p50, am_cw50⟩, List.forall_mem_cons.mpr ⟨⟨am_d51, am_o51, am_p51, am_cw51⟩, List.forall_mem_cons.mpr ⟨⟨am_d52, am_o52, am_p52, am_cw52⟩, List.forall_mem_cons.mpr ⟨⟨am_d53, am_o53, am_p53, am_cw53⟩, List.forall_mem_cons.mpr ⟨⟨am_d54, am_o54, am_p54, am_cw54⟩, List.forall_mem_cons.mpr ⟨⟨am_d55, am_o55, am_p55, am_cw55⟩, List.forall_mem_cons.mpr ⟨⟨am_d56, am_o56, am_p56, am_cw56⟩, List.forall_mem_cons.mpr ⟨⟨am_d57, am_o57, am_p57, am_cw57⟩, List.forall_mem_cons.mpr ⟨⟨am_d58, am_o58, am_p58, am_cw58⟩, List.forall_mem_cons.mpr ⟨⟨am_d59, am_o59, am_p59, am_cw59⟩, (fun _ h => absurd h List.not_mem_nil)⟩⟩⟩⟩⟩⟩⟩⟩⟩⟩⟩⟩⟩⟩⟩⟩⟩⟩⟩⟩⟩⟩⟩⟩⟩⟩⟩⟩⟩⟩
def am_M2 : List MR := [am_m60, am_m61, am_m62, am_m63, am_m64, am_m65, am_m66, am_m67, am_m68, am_m69, am_m70, am_m71, am_m72, am_m73, am_m74, am_m75, am_m76, am_m77, am_m78, am_m79, am_m80, am_m81, am_m82, am_m83, am_m84, am_m85, am_m86, am_m87, am_m88, am_m89]
set_option maxRecDepth 20000 in
theorem am_fa2 : ∀ r ∈ am_M2, (∀ q ∈ r.1, decode r.2.2.1 q.1 = .ok (q.2.1, q.2.2.1)) ∧ okR r = true ∧ okMR r = true ∧ Jvm.Cond.code r.2.1 r.2.2.1 r.2.2.2.1 r.2.2.2.2.1 ∈ wsL_law := List.forall_mem_cons.mpr ⟨⟨am_d60, am_o60, am_p60, am_cw60⟩, List.forall_mem_cons.mpr ⟨⟨am_d61, am_o61, am_p61, am_cw61⟩, List.forall_mem_cons.mpr ⟨⟨am_d62, am_o62, am_p62, am_cw62⟩, List.forall_mem_cons.mpr ⟨⟨am_d63, am_o63, am_p63, am_cw63⟩, List.forall_mem_cons.mpr ⟨⟨am_d64, am_o64, am_p64, am_cw64⟩, List.forall_mem_cons.mpr ⟨⟨am_d65, am_o65, am_p65, am_cw65⟩, List.forall_mem_cons.mpr ⟨⟨am_d66, am_o66, am_p66, am_cw66⟩, List.forall_mem_cons.mpr ⟨⟨am_d67, am_o67, am_p67, am_cw67⟩, List.forall_mem_cons.mpr ⟨⟨am_d68, am_o68, am_p68, am_cw68⟩, List.forall_mem_cons.mpr ⟨⟨am_d69, am_o69, am_p69, am_cw69⟩, List.forall_mem_cons.mpr ⟨⟨am_d70, am_o70, am_p70, am_cw70⟩, List.forall_mem_cons.mpr ⟨⟨am_d71, am_o71, am_p71, am_cw71⟩, List.forall_mem_cons.mpr ⟨⟨am_d72, am_o72, am_p72, am_cw72⟩, List.forall_mem_cons.mpr ⟨⟨am_d73, am_o73, am_p73, am_cw73⟩, List.forall_mem_cons.mpr ⟨⟨am_d74, am_o74, am_p74, am_cw74⟩, List.forall_mem_cons.mpr ⟨⟨am_d75, am_o75, am_p75, am_cw75⟩, List.forall_mem_cons.mpr ⟨⟨am_d76, am_o76, am_p76, am_cw76⟩, List.forall_mem_cons.mpr ⟨⟨am_d77, am_o77, am_p77, am_cw77⟩, List.forall_mem_cons.mpr ⟨⟨am_d78, am_o78, am_p78, am_cw78⟩, List.forall_mem_cons.mpr ⟨⟨am_d79, am_o79, am_p79, am_cw79⟩, List.forall_mem_cons.mpr ⟨⟨am_d80, am_o80, am_p80, am_cw80⟩, List.forall_mem_cons.mpr ⟨⟨am_d81, am_o81, am_p81, am_cw81⟩, List.forall_mem_cons.mpr ⟨⟨am_d82, am_o82, am_p82, am_cw82⟩, List.forall_mem_cons.mpr ⟨⟨am_d83, am_o83, am_p83, am_cw83⟩, List.forall_mem_cons.mpr ⟨⟨am_d84, am_o84, am_p84, am_cw84⟩, List.forall_mem_cons.mpr ⟨⟨am_d85, am_o85, am_p85, am_cw85⟩, List.forall_mem_cons.mpr ⟨⟨am_d86, am_o86, am_p86, am_cw86⟩, List.forall_mem_cons.mpr ⟨⟨am_d87, am_o87, am_p87, am_cw87⟩, List.forall_mem_cons.mpr ⟨⟨am_d88, am_o88, am_p88, am_cw88⟩, List.forall_mem_cons.mpr ⟨⟨am_d89, am_o89, am_p89, am_cw89⟩, (fun _ h => absurd h List.not_mem_nil)⟩⟩⟩⟩⟩⟩⟩⟩⟩⟩⟩⟩⟩⟩⟩⟩⟩⟩⟩⟩⟩⟩⟩⟩⟩⟩⟩⟩⟩⟩
def am_M3 : List MR := [am_m90, am_m91, am_m92, am_m93, am_m94, am_m95, am_m96, am_m97, am_m98, am_m99, am_m100, am_m101, am_m102, am_m103, am_m104, am_m105, am_m106, am_m107, am_m108, am_m109, am_m110, am_m111, am_m112, am_m113, am_m114, am_m115, am_m116, am_m117, am_m118, am_m119]
set_option maxRecDepth 20000 in
theorem am_fa3 : ∀ r ∈ am_M3, (∀ q ∈ r.1, decode r.2.2.1 q.1 = .ok (q.2.1, q.2.2.1)) ∧ okR r = true ∧ okMR r = true ∧ Jvm.Cond.code r.2.1 r.2.2.1 r.2.2.2.1 r.2.2.2.2.1 ∈ wsL_law := List.forall_mem_cons.mpr ⟨⟨am_d90, am_o90, am_p90, am_cw90⟩, List.forall_mem_cons.mpr ⟨⟨am_d91, am_o91, am_p91, am_cw91⟩, List.forall_mem_cons.mpr ⟨⟨am_d92, am_o92, am_p92, am_cw92⟩, List.forall_mem_cons.mpr ⟨⟨am_d93, am_o93, am_p93, am_cw93⟩, List.forall_mem_cons.mpr ⟨⟨am_d94, am_o94, am_p94, am_cw94⟩, List.forall_mem_cons.mpr ⟨⟨am_d95, am_o95, am_p95, am_cw95⟩, List.forall_mem_cons.mpr ⟨⟨am_d96, am_o96, am_p96, am_cw96⟩, List.forall_mem_cons.mpr ⟨⟨am_d97, am_o97, am_p97, am_cw97⟩, List.forall_mem_cons.mpr ⟨⟨am_d98, am_o98, am_p98, am_cw98⟩, List.forall_mem_cons.mpr ⟨⟨am_d99, am_o99, am_p99, am_cw99⟩, List.forall_mem_cons.mpr ⟨⟨am_d100, am_o100, am_p100, am_cw100⟩, List.forall_mem_cons.mpr ⟨⟨am_d101, am_o101, am_p101, am_cw101⟩, List.forall_mem_cons.mpr ⟨⟨am_d102, am_o102, am_p102, am_cw102⟩, List.forall_mem_cons.mpr ⟨⟨am_d103, am_o103, am_p103, am_cw103⟩, List.forall_mem_cons.mpr ⟨⟨am_d104, am_o104, am_p104, am_cw104⟩, List.forall_mem_cons.mpr ⟨⟨am_d105, am_o105, am_p105, am_cw105⟩, List.forall_mem_cons.mpr ⟨⟨am_d106, am_o106, am_p106, am_cw106⟩, List.forall_mem_cons.mpr ⟨⟨am_d107, am_o107, am_p107, am_cw107⟩, List.forall_mem_cons.mpr ⟨⟨am_d108, am_o108, am_p108, am_cw108⟩, List.forall_mem_cons.mpr ⟨⟨am_d109, am_o109, am_p109, am_cw109⟩, List.forall_mem_cons.mpr ⟨⟨am_d110, am_o110, am_p110, am_cw110⟩, List.forall_mem_cons.mpr ⟨⟨am_d111, am_o111, am_p111, am_cw111⟩, List.forall_mem_cons.mpr ⟨⟨am_d112, am_o112, am_p112, am_cw112⟩, List.forall_mem_cons.mpr ⟨⟨am_d113, am_o113, am_p113, am_cw113⟩, List.forall_mem_cons.mpr ⟨⟨am_d114, am_o114, am_p114, am_cw114⟩, List.forall_mem_cons.mpr ⟨⟨am_d115, am_o115, am_p115, am_cw115⟩, List.forall_mem_cons.mpr ⟨⟨am_d116, am_o116, am_p116, am_cw116⟩, List.forall_mem_cons.mpr ⟨⟨am_d117, am_o117, am_p117, am_cw117⟩, List.forall_mem_cons.mpr ⟨⟨am_d118, am_o118, am_p118, am_cw118⟩, List.forall_mem_cons.mpr ⟨⟨am_d119, am_o119, am_p119, am_cw119⟩, (fun _ h => absurd h List.not_mem_nil)⟩⟩⟩⟩⟩⟩⟩⟩⟩⟩⟩⟩⟩⟩⟩⟩⟩⟩⟩⟩⟩⟩⟩⟩⟩⟩⟩⟩⟩⟩
def am_M4 : List MR := [am_m120, am_m121, am_m122, am_m123, am_m124, am_m125, am_m126, am_m127, am_m128, am_m129, am_m130, am_m131, am_m132, am_m133, am_m134, am_m135, am_m136, am_m137, am_m138, am_m139, am_m140, am_m141, am_m142, am_m143, am_m144, am_m145, am_m146, am_m147, am_m148, am_m149]
set_option maxRecDepth 20000 in
theorem am_fa4 : ∀ r ∈ am_M4, (∀ q ∈ r.1, decode r.2.2.1 q.1 = .ok (q.2.1, q.2.2.1)) ∧ okR r = true ∧ okMR r = true ∧ Jvm.Cond.code r.2.1 r.2.2.1 r.2.2.2.1 r.2.2.2.2.1 ∈ wsL_law := List.forall_mem_cons.mpr ⟨⟨am_d120, am_o120, am_p120, am_cw120⟩, List.forall_mem_cons.mpr ⟨⟨am_d121, am_o121, am_p121, am_cw121⟩, List.forall_mem_cons.mpr ⟨⟨am_d122, am_o122, am_p122, am_cw122⟩, List.forall_mem_cons.mpr ⟨⟨am_d123, am_o123, am_p123, am_cw123⟩, List.forall_mem_cons.mpr ⟨⟨am_d124, am_o124, am_p124, am_cw124⟩, List.forall_mem_cons.mpr ⟨⟨am_d125, am_o125, am_p125, am_cw125⟩, List.forall_mem_cons.mpr ⟨⟨am_d126, am_o126, am_p126, am_cw126⟩, List.forall_mem_cons.mpr ⟨⟨am_d127, am_o127, am_p127, am_cw127⟩, List.forall_mem_cons.mpr ⟨⟨am_d128, am_o128, am_p128, am_cw128⟩, List.forall_mem_cons.mpr ⟨⟨am_d129, am_o129, am_p129, am_cw129⟩, List.forall_mem_cons.mpr ⟨⟨am_d130, am_o130, am_p130, am_cw130⟩, List.forall_mem_cons.mpr ⟨⟨am_d131, am_o131, am_p131, am_cw131⟩, List.forall_mem_cons.mpr ⟨⟨am_d132, am_o132, am_p132, am_cw132⟩, List.forall_mem_cons.mpr ⟨⟨am_d133, am_o133, am_p133, am_cw133⟩, List.forall_mem_cons.mpr ⟨⟨am_d134, am_o134, am_p134, am_cw134⟩, List.forall_mem_cons.mpr ⟨⟨am_d135, am_o135, am_p135, am_cw135⟩, List.forall_mem_cons.mpr ⟨⟨am_d136, am_o136, am_p136, am_cw136⟩, List.forall_mem_cons.mpr ⟨⟨am_d137, am_o137, am_p137, am_cw137⟩, List.forall_mem_cons.mpr ⟨⟨am_d138, am_o138, am_p138, am_cw138⟩, List.forall_mem_cons.mpr ⟨⟨am_d139, am_o139, am_p139, am_cw139⟩, List.forall_mem_cons.mpr ⟨⟨am_d140, am_o140, am_p140, am_cw140⟩, List.forall_mem_cons.mpr ⟨⟨am_d141, am_o141, am_p141, am_cw141⟩, List.forall_mem_cons.mpr ⟨⟨am_d142, am_o142, am_p142, am_cw142⟩, List.forall_mem_cons.mpr ⟨⟨am_d143, am_o143, am_p143, am_cw143⟩, List.forall_mem_cons.mpr ⟨⟨am_d144, am_o144, am_p144, am_cw144⟩, List.forall_mem_cons.mpr ⟨⟨am_d145, am_o145, am_p145, am_cw145⟩, List.forall_mem_cons.mpr ⟨⟨am_d146, am_o146, am_p146, am_cw146⟩, List.forall_mem_cons.mpr ⟨⟨am_d147, am_o147, am_p147, am_cw147⟩, List.forall_mem_cons.mpr ⟨⟨am_d148, am_o148, am_p148, am_cw148⟩, List.forall_mem_cons.mpr ⟨⟨am_d149, am_o149, am_p149, am_cw149⟩, (fun _ h => absurd h List.not_mem_nil)⟩⟩⟩⟩⟩⟩⟩⟩⟩⟩⟩⟩⟩⟩⟩⟩⟩⟩⟩⟩⟩⟩⟩⟩⟩⟩⟩⟩⟩⟩
def am_M5 : List MR := [am_m150, am_m151, am_m152, am_m153, am_m154, am_m155, am_m156, am_m157, am_m158, am_m159, am_m160, am_m161, am_m162, am_m163, am_m164, am_m165, am_m166, am_m167, am_m168, am_m169, am_m170, am_m171, am_m172, am_m173, am_m174, am_m175, am_m176, am_m177, am_m178]
set_option maxRecDepth 20000 in
theorem am_fa5 : ∀ r ∈ am_M5, (∀ q ∈ r.1, decode r.2.2.1 q.1 = .ok (q.2.1, q.2.2.1)) ∧ okR r = true ∧ okMR r = true ∧ Jvm.Cond.code r.2.1 r.2.2.1 r.2.2.2.1 r.2.2.2.2.1 ∈ wsL_law := List.forall_mem_cons.mpr ⟨⟨am_d150, am_o150, am_p150, am_cw150⟩, List.forall_mem_cons.mpr ⟨⟨am_d151, am_o151, am_p151, am_cw151⟩, List.forall_mem_cons.mpr ⟨⟨am_d152, am_o152, am_p152, am_cw152⟩, List.forall_mem_cons.mpr ⟨⟨am_d153, am_o153, am_p153, am_cw153⟩, List.forall_mem_cons.mpr ⟨⟨am_d154, am_o154, am_p154, am_cw154⟩, List.forall_mem_cons.mpr ⟨⟨am_d155, am_o155, am_p155, am_cw155⟩, List.forall_mem_cons.mpr ⟨⟨am_d156, am_o156, am_p156, am_cw156⟩, List.forall_mem_cons.mpr ⟨⟨am_d157, am_o157, am_p157, am_cw157⟩, List.forall_mem_cons.mpr ⟨⟨am_d158, am_o158, am_p158, am_cw158⟩, List.forall_mem_cons.mpr ⟨⟨am_d159, am_o159, am_p159, am_cw159⟩, List.forall_mem_cons.mpr ⟨⟨am_d160, am_o160, am_p160, am_cw160⟩, List.forall_mem_cons.mpr ⟨⟨am_d161, am_o161, am_p161, am_cw161⟩, List.forall_mem_cons.mpr ⟨⟨am_d162, am_o162, am_p162, am_cw162⟩, List.forall_mem_cons.mpr ⟨⟨am_d163, am_o163, am_p163, am_cw163⟩, List.forall_mem_cons.mpr ⟨⟨am_d164, am_o164, am_p164, am_cw164⟩, List.forall_mem_cons.mpr ⟨⟨am_d165, am_o165, am_p165, am_cw165⟩, List.forall_mem_cons.mpr ⟨⟨am_d166, am_o166, am_p166, am_cw166⟩, List.forall_mem_cons.mpr ⟨⟨am_d167, am_o167, am_p167, am_cw167⟩, List.forall_mem_cons.mpr ⟨⟨am_d168, am_o168, am_p168, am_cw168⟩, List.forall_mem_cons.mpr ⟨⟨am_d169, am_o169, am_p169, am_cw169⟩, List.forall_mem_cons.mpr ⟨⟨am_d170, am_o170, am_p170, am_cw170⟩, List.forall_mem_cons.mpr ⟨⟨am_d171, am_o171, am_p171, am_cw171⟩, List.forall_mem_cons.mpr ⟨⟨am_d172, am_o172, am_p172, am_cw172⟩, List.forall_mem_cons.mpr ⟨⟨am_d173, am_o173, am_p173, am_cw173⟩, List.forall_mem_cons.mpr ⟨⟨am_d174, am_o174, am_p174, am_cw174⟩, List.forall_mem_cons.mpr ⟨⟨am_d175, am_o175, am_p175, am_cw175⟩, List.forall_mem_cons.mpr ⟨⟨am_d176, am_o176, am_p176, am_cw176⟩, List.forall_mem_cons.mpr ⟨⟨am_d177, am_o177, am_p177, am_cw177⟩, List.forall_mem_cons.mpr ⟨⟨am_d178, am_o178, am_p178, am_cw178⟩, (fun _ h => absurd h List.not_mem_nil)⟩⟩⟩⟩⟩⟩⟩⟩⟩⟩⟩⟩⟩⟩⟩⟩⟩⟩⟩⟩⟩⟩⟩⟩⟩⟩⟩⟩⟩
def am_ML : List MR := am_M0 ++ (am_M1 ++ (am_M2 ++ (am_M3 ++ (am_M4 ++ (am_M5)))))
theorem am_faL : ∀ r ∈ am_ML, (∀ q ∈ r.1, decode r.2.2.1 q.1 = .ok (q.2.1, q.2.2.1)) ∧ okR r = true ∧ okMR r = true ∧ Jvm.Cond.code r.2.1 r.2.2.1 r.2.2.2.1 r.2.2.2.2.1 ∈ wsL_law := fun r => fun h => (List.mem_append.mp h).elim (am_fa0 r) (fun h => (List.mem_append.mp h).elim (am_fa1 r) (fun h => (List.mem_append.mp h).elim (am_fa2 r) (fun h => (List.mem_append.mp h).elim (am_fa3 r) (fun h => (List.mem_append.mp h).elim (am_fa4 r) (am_fa5 r)))))
set_option maxRecDepth 20000 in
theorem am_M_eq : am_M = am_ML ++ [am_m179] := rfl
theorem am_at_lt {m : Nat} (h : m < 179) : am_at m ∈ am_ML := by
  have hl : am_ML.length = 179 := rfl
  unfold am_at
  rw [am_M_eq, List.getD_eq_getElem?_getD, List.getElem?_append_left (by omega)]
  cases e : am_ML[m]? with
  | none => rw [List.getElem?_eq_none_iff] at e; omega
  | some r => exact List.mem_of_getElem? e
theorem am_at_any (m : Nat) : (∀ q ∈ (am_at m).1, decode (am_at m).2.2.1 q.1 = .ok (q.2.1, q.2.2.1)) ∧ okR (am_at m) = true := by
  have hl : am_ML.length = 179 := rfl
  rcases Nat.lt_or_ge m 179 with q | q
  · have h := am_faL _ (am_at_lt q)
    exact ⟨h.1, h.2.1⟩
  · have e : am_at m = am_m179 ∨ am_at m = am_m0 := by
      unfold am_at
      rw [am_M_eq, List.getD_eq_getElem?_getD, List.getElem?_append_right (by omega)]
      cases z : m - am_ML.length with
      | zero => exact Or.inl rfl
      | succ k => exact Or.inr rfl
    rcases e with e | e
    · rw [e]; exact ⟨am_d179, am_o179⟩
    · rw [e]; exact ⟨am_d0, am_o0⟩
theorem am_lk_mem : ∀ {l : List (Nat × AI)} {pc : Nat} {f : AI}, am_lk l pc = some f → (pc, f) ∈ l
  | [], _, _, h => by cases h
  | q :: l, pc, f, h => by
    rw [am_lk] at h
    cases e : Nat.beq q.1 pc with
    | true =>
      rw [e] at h
      cases h
      rw [← Nat.eq_of_beq_eq_true e]
      exact List.mem_cons_self
    | false =>
      rw [e] at h
      exact List.mem_cons_of_mem _ (am_lk_mem h)
theorem okR_i {r : MR} (h : okR r = true) {q : Nat × AI} (hq : q ∈ r.1) : okE r.2.1.cls r.2.1.name r.2.2.2.1 r.2.2.2.2.2.2.2.2 r.2.2.2.2.1 q = true := by
  unfold okR at h
  exact List.all_eq_true.mp h q hq
