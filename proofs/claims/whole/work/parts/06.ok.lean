theorem chk {p : AE → Bool} {l : List AE} {n : Nat} (h : ((l.drop n).take 60).all p = true) (k : (l.drop (n + 60)).all p = true) : (l.drop n).all p = true := by
  rw [← List.take_append_drop 60 (l.drop n), List.all_append, h, List.drop_drop, k]; rfl
theorem chk0 {p : AE → Bool} {l : List AE} {n : Nat} (h : l.length ≤ n) : (l.drop n).all p = true := by rw [List.drop_eq_nil_of_le h]; rfl
theorem ok0 : cd0.all (okE cX0_init 0 2) = true := by decide +kernel
theorem ok1 : cd1.all (okE cX0_clear 0 1) = true := by decide +kernel
theorem ok2 : cd2.all (okE cX0_addStep 0 1) = true := by decide +kernel
theorem ok3 : cd3.all (okE cX0_closeLine 0 1) = true := by decide +kernel
theorem ok4 : cd4.all (okE cX0_sum 0 1) = true := by decide +kernel
theorem ok5 : cd5.all (okE cX0_isMet 0 1) = true := by decide +kernel
theorem ok6 : cd6.all (okE cX0_isTestMet 0 1) = true := by decide +kernel
theorem ok7 : cd7.all (okE cX1_init 1 2) = true := by decide +kernel
theorem ok8 : cd8.all (okE cX1_tell 1 1) = true := by decide +kernel
theorem ok9 : cd9.all (okE cX1_untell 1 1) = true := by decide +kernel
theorem ok10 : cd10.all (okE cX1_isHeld 1 1) = true := by decide +kernel
theorem ok11 : cd11.all (okE cX2_init 2 2) = true := by decide +kernel
theorem ok12 : cd12.all (okE cX2_readAll 2 1) = true := by decide +kernel
theorem ok13 : cd13.all (okE cX2_stop 2 1) = true := by decide +kernel
theorem ok14 : cd14.all (okE cX2_readLine 2 1) = true := by decide +kernel
theorem ok15 : cd15.all (okE cX2_readNumber 2 1) = true := by decide +kernel
theorem ok16 : cd16.all (okE cX2_readEither 2 1) = true := by decide +kernel
theorem ok17 : cd17.all (okE cX2_readOne 2 1) = true := by decide +kernel
theorem ok18 : cd18.all (okE cX2_readTest 2 1) = true := by decide +kernel
theorem ok19 : cd19.all (okE cX3_init 3 2) = true := by decide +kernel
theorem ok20 : cd20.all (okE cX3_personOf 3 1) = true := by decide +kernel
theorem ok21 : cd21.all (okE cX3_gather 3 1) = true := by decide +kernel
theorem ok22 : cd22.all (okE cX3_bind 3 1) = true := by decide +kernel
theorem ok23 : cd23.all (okE cX3_weighPairs 3 1) = true := by decide +kernel
theorem ok24 : cd24.all (okE cX3_choose 3 1) = true := by decide +kernel
theorem ok25 : cd25.all (okE cX3_weighSets 3 1) = true := by decide +kernel
theorem ok26 : cd26.all (okE cX3_weighBonds 3 1) = true := by decide +kernel
theorem ok27 : cd27.all (okE cX3_chooseTails 3 1) = true := by decide +kernel
theorem ok28 : cd28.all (okE cX3_greatestKey 3 1) = true := by decide +kernel
theorem ok29 : cd29.all (okE cX3_readKey 3 1) = true := by decide +kernel
theorem ok30 : cd30.all (okE cX4_init 4 2) = true := by decide +kernel
theorem ok31 : cd31.all (okE cX4_add 4 1) = true := by decide +kernel
theorem ok32 : cd32.all (okE cX4_isAlive 4 1) = true := by decide +kernel
theorem ok33 : cd33.all (okE cX5_init 5 2) = true := by decide +kernel
theorem ok34 : cd34.all (okE cX5_take 5 1) = true := by decide +kernel
theorem ok35 : cd35.all (okE cX5_takeVersion 5 1) = true := by decide +kernel
theorem ok36 : cd36.all (okE cX5_isThere 5 1) = true := by decide +kernel
theorem ok37 : cd37.all (okE cX5_valueOf 5 1) = true := by decide +kernel
theorem ok38 : cd38.all (okE cX6_init 6 2) = true := by decide +kernel
theorem ok39 : cd39.all (okE cX6_append 6 1) = true := by decide +kernel
theorem ok40 : cd40.all (okE cX6_sortOf 6 0) = true := by decide +kernel
theorem ok41 : cd41.all (okE cX6_rewind 6 1) = true := by decide +kernel
theorem ok42 : cd42.all (okE cX6_advance 6 1) = true := by decide +kernel
theorem ok43 : cd43.all (okE cX6_takeWord 6 1) = true := by decide +kernel
theorem ok44 : cd44.all (okE cX6_takeNumber 6 1) = true := by decide +kernel
theorem ok45 : cd45.all (okE cX6_reads 6 1) = true := by decide +kernel
theorem ok46 : cd46.all (okE cX7_init 7 2) = true := by decide +kernel
theorem ok47 : cd47.all (okE cX7_add 7 1) = true := by decide +kernel
theorem ok48 : cd48.all (okE cX8_init 8 2) = true := by decide +kernel
theorem ok49 : cd49.all (okE cX8_gather 8 1) = true := by decide +kernel
theorem ok50 : cd50.all (okE cX8_choose 8 1) = true := by decide +kernel
theorem ok51 : cd51.all (okE cX8_isAhead 8 0) = true := by decide +kernel
theorem ok52 : cd52.all (okE cX8_isFirst 8 1) = true := by decide +kernel
theorem ok53 : cd53.all (okE cX8_sumFor 8 1) = true := by decide +kernel
theorem ok54 : cd54.all (okE cX8_latestFor 8 1) = true := by decide +kernel
theorem ok55 : cd55.all (okE cX8_strongestFor 8 1) = true := by decide +kernel
theorem ok56 : cd56.all (okE cX9_init 9 2) = true := by decide +kernel
theorem ok57 : cd57.all (okE cX9_weight 9 1) = true := by decide +kernel
theorem ok58 : cd58.all (okE cX10_init 10 2) = true := by decide +kernel
theorem ok59 : cd59.all (okE cX10_add 10 1) = true := by decide +kernel
theorem ok60 : cd60.all (okE cX10_has 10 1) = true := by decide +kernel
theorem ok61 : cd61.all (okE cX11_init 11 2) = true := by decide +kernel
theorem ok62 : cd62.all (okE cX11_trust 11 1) = true := by decide +kernel
theorem ok63 : cd63.all (okE cX11_fade 11 1) = true := by decide +kernel
theorem ok64 : cd64.all (okE cX11_rights 11 1) = true := by decide +kernel
theorem ok65 : cd65.all (okE cX11_row 11 1) = true := by decide +kernel
theorem ok66 : cd66.all (okE cX11_set 11 1) = true := by decide +kernel
theorem ok67 : cd67.all (okE cX11_value 11 1) = true := by decide +kernel
theorem ok68 : cd68.all (okE cX11_forget 11 1) = true := by decide +kernel
theorem ok69 : cd69.all (okE cX11_later 11 1) = true := by decide +kernel
theorem ok70 : cd70.all (okE cX11_feed 11 1) = true := by decide +kernel
theorem ok71 : cd71.all (okE cX11_end 11 1) = true := by decide +kernel
theorem ok72 : cd72.all (okE cX11_rules 11 1) = true := by decide +kernel
theorem ok73 : cd73.all (okE cX11_fault 11 1) = true := by decide +kernel
theorem ok74 : cd74.all (okE cX11_score 11 1) = true := by decide +kernel
theorem ok75 : cd75.all (okE cX11_hand 11 1) = true := by decide +kernel
theorem ok76 : cd76.all (okE cX11_unhand 11 1) = true := by decide +kernel
theorem ok77 : cd77.all (okE cX11_persons 11 1) = true := by decide +kernel
theorem ok78 : cd78.all (okE cX11_worth 11 1) = true := by decide +kernel
theorem ok79 : cd79.all (okE cX11_person 11 1) = true := by decide +kernel
theorem ok80 : cd80.all (okE cX11_golden 11 1) = true := by decide +kernel
theorem ok81 : cd81.all (okE cX11_from 11 1) = true := by decide +kernel
theorem ok82 : cd82.all (okE cX11_torn 11 1) = true := by decide +kernel
theorem ok83 : cd83.all (okE cX11_fix 11 1) = true := by decide +kernel
theorem ok84 : cd84.all (okE cX11_unfix 11 1) = true := by decide +kernel
theorem ok85 : cd85.all (okE cX11_changes 11 1) = true := by decide +kernel
theorem ok86 : cd86.all (okE cX11_change 11 1) = true := by decide +kernel
theorem ok87 : cd87.all (okE cX11_accept 11 1) = true := by decide +kernel
theorem ok88 : cd88.all (okE cX11_refuse 11 1) = true := by decide +kernel
theorem ok89 : cd89.all (okE cX11_about 11 1) = true := by decide +kernel
theorem ok90 : cd90.all (okE cX11_isSource 11 0) = true := by decide +kernel
theorem ok91 : cd91.all (okE cX11_isField 11 0) = true := by decide +kernel
theorem ok92 : cd92.all (okE cX11_isValue 11 0) = true := by decide +kernel
theorem ok93 : cd93.all (okE cX11_look 11 1) = true := by decide +kernel
theorem ok94 : cd94.all (okE cX11_part 11 1) = true := by decide +kernel
theorem ok95 : cd95.all (okE cX11_personAsked 11 1) = true := by decide +kernel
theorem ok96 : cd96.all (okE cX11_hear 11 1) = true := by decide +kernel
theorem ok97 : cd97.all (okE cX11_goldenOf 11 1) = true := by decide +kernel
theorem ok98 : cd98.all (okE cX11_latestFix 11 1) = true := by decide +kernel
theorem ok99 : cd99.all (okE cX11_hasWish 11 1) = true := by decide +kernel
theorem ok100 : cd100.all (okE cX11_listWishes 11 1) = true := by decide +kernel
theorem ok101 : cd101.all (okE cX11_listWishesOf 11 1) = true := by decide +kernel
theorem ok102_0 : ((cd102.drop 0).take 60).all (okE cX12_init 12 2) = true := by decide +kernel
theorem ok102_60 : ((cd102.drop 60).take 60).all (okE cX12_init 12 2) = true := by decide +kernel
theorem ok102_120 : ((cd102.drop 120).take 60).all (okE cX12_init 12 2) = true := by decide +kernel
theorem ok102_180 : ((cd102.drop 180).take 60).all (okE cX12_init 12 2) = true := by decide +kernel
theorem ok102 : cd102.all (okE cX12_init 12 2) = true := chk (n := 0) ok102_0 (chk (n := 60) ok102_60 (chk (n := 120) ok102_120 (chk (n := 180) ok102_180 (chk0 (by decide +kernel)))))
theorem ok103 : cd103.all (okE cX12_isSource 12 0) = true := by decide +kernel
theorem ok104 : cd104.all (okE cX12_isField 12 0) = true := by decide +kernel
theorem ok105 : cd105.all (okE cX12_trust 12 1) = true := by decide +kernel
theorem ok106 : cd106.all (okE cX12_fade 12 1) = true := by decide +kernel
theorem ok107 : cd107.all (okE cX12_rights 12 1) = true := by decide +kernel
theorem ok108 : cd108.all (okE cX12_row 12 1) = true := by decide +kernel
theorem ok109 : cd109.all (okE cX12_isRow 12 1) = true := by decide +kernel
theorem ok110 : cd110.all (okE cX12_isThere 12 1) = true := by decide +kernel
theorem ok111 : cd111.all (okE cX12_isValue 12 0) = true := by decide +kernel
theorem ok112 : cd112.all (okE cX12_tell 12 1) = true := by decide +kernel
theorem ok113 : cd113.all (okE cX12_set 12 1) = true := by decide +kernel
theorem ok114 : cd114.all (okE cX12_version 12 1) = true := by decide +kernel
theorem ok115 : cd115.all (okE cX12_valueOf 12 1) = true := by decide +kernel
theorem ok116 : cd116.all (okE cX12_value 12 1) = true := by decide +kernel
theorem ok117 : cd117.all (okE cX12_forget 12 1) = true := by decide +kernel
theorem ok118 : cd118.all (okE cX12_later 12 1) = true := by decide +kernel
theorem ok119 : cd119.all (okE cX12_feed 12 1) = true := by decide +kernel
theorem ok120 : cd120.all (okE cX12_four 12 1) = true := by decide +kernel
theorem ok121 : cd121.all (okE cX12_end 12 1) = true := by decide +kernel
theorem ok122 : cd122.all (okE cX12_here 12 1) = true := by decide +kernel
theorem ok123 : cd123.all (okE cX12_isLetter 12 0) = true := by decide +kernel
theorem ok124 : cd124.all (okE cX12_isDigit 12 0) = true := by decide +kernel
theorem ok125_0 : ((cd125.drop 0).take 60).all (okE cX12_next 12 1) = true := by decide +kernel
theorem ok125_60 : ((cd125.drop 60).take 60).all (okE cX12_next 12 1) = true := by decide +kernel
theorem ok125_120 : ((cd125.drop 120).take 60).all (okE cX12_next 12 1) = true := by decide +kernel
theorem ok125 : cd125.all (okE cX12_next 12 1) = true := chk (n := 0) ok125_0 (chk (n := 60) ok125_60 (chk (n := 120) ok125_120 (chk0 (by decide +kernel))))
theorem ok126 : cd126.all (okE cX12_wrong 12 1) = true := by decide +kernel
theorem ok127 : cd127.all (okE cX12_isWord 12 1) = true := by decide +kernel
theorem ok128 : cd128.all (okE cX12_step 12 1) = true := by decide +kernel
theorem ok129 : cd129.all (okE cX12_told 12 1) = true := by decide +kernel
theorem ok130 : cd130.all (okE cX12_hold 12 1) = true := by decide +kernel
theorem ok131 : cd131.all (okE cX12_pop 12 1) = true := by decide +kernel
theorem ok132 : cd132.all (okE cX12_settle 12 1) = true := by decide +kernel
theorem ok133 : cd133.all (okE cX12_isOpen 12 1) = true := by decide +kernel
theorem ok134 : cd134.all (okE cX12_readE 12 1) = true := by decide +kernel
theorem ok135_0 : ((cd135.drop 0).take 60).all (okE cX12_operand 12 1) = true := by decide +kernel
theorem ok135_60 : ((cd135.drop 60).take 60).all (okE cX12_operand 12 1) = true := by decide +kernel
theorem ok135_120 : ((cd135.drop 120).take 60).all (okE cX12_operand 12 1) = true := by decide +kernel
theorem ok135 : cd135.all (okE cX12_operand 12 1) = true := chk (n := 0) ok135_0 (chk (n := 60) ok135_60 (chk (n := 120) ok135_120 (chk0 (by decide +kernel))))
theorem ok136 : cd136.all (okE cX12_sign 12 1) = true := by decide +kernel
theorem ok137_0 : ((cd137.drop 0).take 60).all (okE cX12_rules 12 1) = true := by decide +kernel
theorem ok137_60 : ((cd137.drop 60).take 60).all (okE cX12_rules 12 1) = true := by decide +kernel
theorem ok137_120 : ((cd137.drop 120).take 60).all (okE cX12_rules 12 1) = true := by decide +kernel
theorem ok137_180 : ((cd137.drop 180).take 60).all (okE cX12_rules 12 1) = true := by decide +kernel
theorem ok137 : cd137.all (okE cX12_rules 12 1) = true := chk (n := 0) ok137_0 (chk (n := 60) ok137_60 (chk (n := 120) ok137_120 (chk (n := 180) ok137_180 (chk0 (by decide +kernel)))))
theorem ok138 : cd138.all (okE cX12_fault 12 1) = true := by decide +kernel
theorem ok139_0 : ((cd139.drop 0).take 60).all (okE cX12_holds 12 1) = true := by decide +kernel
theorem ok139_60 : ((cd139.drop 60).take 60).all (okE cX12_holds 12 1) = true := by decide +kernel
theorem ok139_120 : ((cd139.drop 120).take 60).all (okE cX12_holds 12 1) = true := by decide +kernel
theorem ok139_180 : ((cd139.drop 180).take 60).all (okE cX12_holds 12 1) = true := by decide +kernel
theorem ok139 : cd139.all (okE cX12_holds 12 1) = true := chk (n := 0) ok139_0 (chk (n := 60) ok139_60 (chk (n := 120) ok139_120 (chk (n := 180) ok139_180 (chk0 (by decide +kernel)))))
theorem ok140 : cd140.all (okE cX12_scoreOf 12 1) = true := by decide +kernel
theorem ok141 : cd141.all (okE cX12_score 12 1) = true := by decide +kernel
theorem ok142 : cd142.all (okE cX12_isKnown 12 0) = true := by decide +kernel
theorem ok143 : cd143.all (okE cX12_hand 12 1) = true := by decide +kernel
theorem ok144 : cd144.all (okE cX12_unhand 12 1) = true := by decide +kernel
theorem ok145 : cd145.all (okE cX12_fix 12 1) = true := by decide +kernel
theorem ok146 : cd146.all (okE cX12_unfix 12 1) = true := by decide +kernel
theorem ok147_0 : ((cd147.drop 0).take 60).all (okE cX12_part 12 1) = true := by decide +kernel
theorem ok147_60 : ((cd147.drop 60).take 60).all (okE cX12_part 12 1) = true := by decide +kernel
theorem ok147_120 : ((cd147.drop 120).take 60).all (okE cX12_part 12 1) = true := by decide +kernel
theorem ok147_180 : ((cd147.drop 180).take 60).all (okE cX12_part 12 1) = true := by decide +kernel
theorem ok147_240 : ((cd147.drop 240).take 60).all (okE cX12_part 12 1) = true := by decide +kernel
theorem ok147 : cd147.all (okE cX12_part 12 1) = true := chk (n := 0) ok147_0 (chk (n := 60) ok147_60 (chk (n := 120) ok147_120 (chk (n := 180) ok147_180 (chk (n := 240) ok147_240 (chk0 (by decide +kernel))))))
theorem ok148 : cd148.all (okE cX12_canBe 12 1) = true := by decide +kernel
theorem ok149 : cd149.all (okE cX12_look 12 1) = true := by decide +kernel
theorem ok150 : cd150.all (okE cX12_persons 12 1) = true := by decide +kernel
theorem ok151 : cd151.all (okE cX12_worth 12 1) = true := by decide +kernel
theorem ok152 : cd152.all (okE cX12_person 12 1) = true := by decide +kernel
theorem ok153_0 : ((cd153.drop 0).take 60).all (okE cX12_gold 12 1) = true := by decide +kernel
theorem ok153_60 : ((cd153.drop 60).take 60).all (okE cX12_gold 12 1) = true := by decide +kernel
theorem ok153_120 : ((cd153.drop 120).take 60).all (okE cX12_gold 12 1) = true := by decide +kernel
theorem ok153_180 : ((cd153.drop 180).take 60).all (okE cX12_gold 12 1) = true := by decide +kernel
theorem ok153_240 : ((cd153.drop 240).take 60).all (okE cX12_gold 12 1) = true := by decide +kernel
theorem ok153_300 : ((cd153.drop 300).take 60).all (okE cX12_gold 12 1) = true := by decide +kernel
theorem ok153 : cd153.all (okE cX12_gold 12 1) = true := chk (n := 0) ok153_0 (chk (n := 60) ok153_60 (chk (n := 120) ok153_120 (chk (n := 180) ok153_180 (chk (n := 240) ok153_240 (chk (n := 300) ok153_300 (chk0 (by decide +kernel)))))))
theorem ok154 : cd154.all (okE cX12_tells 12 1) = true := by decide +kernel
theorem ok155 : cd155.all (okE cX12_golden 12 1) = true := by decide +kernel
theorem ok156 : cd156.all (okE cX12_from 12 1) = true := by decide +kernel
theorem ok157 : cd157.all (okE cX12_torn 12 1) = true := by decide +kernel
theorem ok158 : cd158.all (okE cX12_isRefused 12 1) = true := by decide +kernel
theorem ok159 : cd159.all (okE cX12_seek 12 1) = true := by decide +kernel
theorem ok160 : cd160.all (okE cX12_changes 12 1) = true := by decide +kernel
theorem ok161 : cd161.all (okE cX12_isChange 12 1) = true := by decide +kernel
theorem ok162 : cd162.all (okE cX12_change 12 1) = true := by decide +kernel
theorem ok163 : cd163.all (okE cX12_accept 12 1) = true := by decide +kernel
theorem ok164 : cd164.all (okE cX12_refuse 12 1) = true := by decide +kernel
theorem ok165 : cd165.all (okE cX12_about 12 1) = true := by decide +kernel
theorem ok166 : cd166.all (okE cJ6_bitCount_0f7a4 14 0) = true := by decide +kernel
theorem ok167 : cd167.all (okE cJ0_length_8abf5 15 1) = true := by decide +kernel
theorem ok168 : cd168.all (okE cJ0_charAt_5068e 15 1) = true := by decide +kernel
theorem ok169 : cd169.all (okE cJ0_coder_7d493 15 1) = true := by decide +kernel
theorem ok170 : cd170.all (okE cJ0_isLatin1_aae02 15 1) = true := by decide +kernel
theorem ok171 : cd171.all (okE cJ0_checkIndex_df160 15 0) = true := by decide +kernel
theorem ok172 : cd172.all (okE cJ1_charAt_3b067 16 0) = true := by decide +kernel
theorem ok173 : cd173.all (okE cJ3_checkIndex_8e157 17 0) = true := by decide +kernel
theorem ok174_0 : ((cd174.drop 0).take 60).all (okE cL_law 13 0) = true := by decide +kernel
theorem ok174_60 : ((cd174.drop 60).take 60).all (okE cL_law 13 0) = true := by decide +kernel
theorem ok174_120 : ((cd174.drop 120).take 60).all (okE cL_law 13 0) = true := by decide +kernel
theorem ok174_180 : ((cd174.drop 180).take 60).all (okE cL_law 13 0) = true := by decide +kernel
theorem ok174_240 : ((cd174.drop 240).take 60).all (okE cL_law 13 0) = true := by decide +kernel
theorem ok174_300 : ((cd174.drop 300).take 60).all (okE cL_law 13 0) = true := by decide +kernel
theorem ok174_360 : ((cd174.drop 360).take 60).all (okE cL_law 13 0) = true := by decide +kernel
theorem ok174_420 : ((cd174.drop 420).take 60).all (okE cL_law 13 0) = true := by decide +kernel
theorem ok174_480 : ((cd174.drop 480).take 60).all (okE cL_law 13 0) = true := by decide +kernel
theorem ok174_540 : ((cd174.drop 540).take 60).all (okE cL_law 13 0) = true := by decide +kernel
theorem ok174_600 : ((cd174.drop 600).take 60).all (okE cL_law 13 0) = true := by decide +kernel
theorem ok174_660 : ((cd174.drop 660).take 60).all (okE cL_law 13 0) = true := by decide +kernel
theorem ok174_720 : ((cd174.drop 720).take 60).all (okE cL_law 13 0) = true := by decide +kernel
theorem ok174_780 : ((cd174.drop 780).take 60).all (okE cL_law 13 0) = true := by decide +kernel
theorem ok174_840 : ((cd174.drop 840).take 60).all (okE cL_law 13 0) = true := by decide +kernel
theorem ok174 : cd174.all (okE cL_law 13 0) = true := chk (n := 0) ok174_0 (chk (n := 60) ok174_60 (chk (n := 120) ok174_120 (chk (n := 180) ok174_180 (chk (n := 240) ok174_240 (chk (n := 300) ok174_300 (chk (n := 360) ok174_360 (chk (n := 420) ok174_420 (chk (n := 480) ok174_480 (chk (n := 540) ok174_540 (chk (n := 600) ok174_600 (chk (n := 660) ok174_660 (chk (n := 720) ok174_720 (chk (n := 780) ok174_780 (chk (n := 840) ok174_840 (chk0 (by decide +kernel))))))))))))))))
