-- METHODS: their words stand in the tables
set_option maxRecDepth 100000 in
theorem cw0 : Jvm.Cond.code yX0_init cX0_init 1 none ∈ lw_tbl := List.mem_of_getElem? (i := 90) rfl
set_option maxRecDepth 100000 in
theorem cw1 : Jvm.Cond.code yX0_clear cX0_clear 1 none ∈ lw_tbl := List.mem_of_getElem? (i := 585) rfl
set_option maxRecDepth 100000 in
theorem cw2 : Jvm.Cond.code yX0_addStep cX0_addStep 4 none ∈ lw_tbl := List.mem_of_getElem? (i := 682) rfl
set_option maxRecDepth 100000 in
theorem cw3 : Jvm.Cond.code yX0_closeLine cX0_closeLine 2 none ∈ lw_tbl := List.mem_of_getElem? (i := 697) rfl
set_option maxRecDepth 100000 in
theorem cw4 : Jvm.Cond.code yX0_sum cX0_sum 8 (some .int) ∈ lw_tbl := List.mem_of_getElem? (i := 711) rfl
set_option maxRecDepth 100000 in
theorem cw5 : Jvm.Cond.code yX0_isMet cX0_isMet 10 (some .boolean) ∈ lw_tbl := List.mem_of_getElem? (i := 715) rfl
set_option maxRecDepth 100000 in
theorem cw6 : Jvm.Cond.code yX0_isTestMet cX0_isTestMet 9 (some .boolean) ∈ lw_tbl := List.mem_of_getElem? (i := 720) rfl
set_option maxRecDepth 100000 in
theorem cw7 : Jvm.Cond.code yX1_init cX1_init 3 none ∈ lw_tbl := List.mem_of_getElem? (i := 248) rfl
set_option maxRecDepth 100000 in
theorem cw8 : Jvm.Cond.code yX1_tell cX1_tell 6 (some .int) ∈ lw_tbl := List.mem_of_getElem? (i := 728) rfl
set_option maxRecDepth 100000 in
theorem cw9 : Jvm.Cond.code yX1_untell cX1_untell 3 (some .boolean) ∈ lw_tbl := List.mem_of_getElem? (i := 736) rfl
set_option maxRecDepth 100000 in
theorem cw10 : Jvm.Cond.code yX1_isHeld cX1_isHeld 3 (some .boolean) ∈ lw_tbl := List.mem_of_getElem? (i := 756) rfl
set_option maxRecDepth 100000 in
theorem cw11 : Jvm.Cond.code yX2_init cX2_init 1 none ∈ lw_tbl := List.mem_of_getElem? (i := 233) rfl
set_option maxRecDepth 100000 in
theorem cw12 : Jvm.Cond.code yX2_readAll cX2_readAll 4 (some .boolean) ∈ lw_tbl := List.mem_of_getElem? (i := 581) rfl
set_option maxRecDepth 100000 in
theorem cw13 : Jvm.Cond.code yX2_stop cX2_stop 3 (some .boolean) ∈ lw_tbl := List.mem_of_getElem? (i := 605) rfl
set_option maxRecDepth 100000 in
theorem cw14 : Jvm.Cond.code yX2_readLine cX2_readLine 5 (some .boolean) ∈ lw_tbl := List.mem_of_getElem? (i := 609) rfl
set_option maxRecDepth 100000 in
theorem cw15 : Jvm.Cond.code yX2_readNumber cX2_readNumber 4 (some .boolean) ∈ lw_tbl := List.mem_of_getElem? (i := 668) rfl
set_option maxRecDepth 100000 in
theorem cw16 : Jvm.Cond.code yX2_readEither cX2_readEither 7 (some .boolean) ∈ lw_tbl := List.mem_of_getElem? (i := 673) rfl
set_option maxRecDepth 100000 in
theorem cw17 : Jvm.Cond.code yX2_readOne cX2_readOne 4 (some .boolean) ∈ lw_tbl := List.mem_of_getElem? (i := 677) rfl
set_option maxRecDepth 100000 in
theorem cw18 : Jvm.Cond.code yX2_readTest cX2_readTest 8 (some .boolean) ∈ lw_tbl := List.mem_of_getElem? (i := 686) rfl
set_option maxRecDepth 100000 in
theorem cw19 : Jvm.Cond.code yX3_init cX3_init 1 none ∈ lw_tbl := List.mem_of_getElem? (i := 317) rfl
set_option maxRecDepth 100000 in
theorem cw20 : Jvm.Cond.code yX3_personOf cX3_personOf 2 (some .int) ∈ lw_tbl := List.mem_of_getElem? (i := 810) rfl
set_option maxRecDepth 100000 in
theorem cw21 : Jvm.Cond.code yX3_gather cX3_gather 3 none ∈ lw_tbl := List.mem_of_getElem? (i := 748) rfl
set_option maxRecDepth 100000 in
theorem cw22 : Jvm.Cond.code yX3_bind cX3_bind 7 none ∈ lw_tbl := List.mem_of_getElem? (i := 752) rfl
set_option maxRecDepth 100000 in
theorem cw23 : Jvm.Cond.code yX3_weighPairs cX3_weighPairs 6 none ∈ lw_tbl := List.mem_of_getElem? (i := 760) rfl
set_option maxRecDepth 100000 in
theorem cw24 : Jvm.Cond.code yX3_choose cX3_choose 4 none ∈ lw_tbl := List.mem_of_getElem? (i := 765) rfl
set_option maxRecDepth 100000 in
theorem cw25 : Jvm.Cond.code yX3_weighSets cX3_weighSets 5 none ∈ lw_tbl := List.mem_of_getElem? (i := 769) rfl
set_option maxRecDepth 100000 in
theorem cw26 : Jvm.Cond.code yX3_weighBonds cX3_weighBonds 5 none ∈ lw_tbl := List.mem_of_getElem? (i := 773) rfl
set_option maxRecDepth 100000 in
theorem cw27 : Jvm.Cond.code yX3_chooseTails cX3_chooseTails 6 none ∈ lw_tbl := List.mem_of_getElem? (i := 778) rfl
set_option maxRecDepth 100000 in
theorem cw28 : Jvm.Cond.code yX3_greatestKey cX3_greatestKey 10 (some .long) ∈ lw_tbl := List.mem_of_getElem? (i := 782) rfl
set_option maxRecDepth 100000 in
theorem cw29 : Jvm.Cond.code yX3_readKey cX3_readKey 5 none ∈ lw_tbl := List.mem_of_getElem? (i := 796) rfl
set_option maxRecDepth 100000 in
theorem cw30 : Jvm.Cond.code yX4_init cX4_init 1 none ∈ lw_tbl := List.mem_of_getElem? (i := 139) rfl
set_option maxRecDepth 100000 in
theorem cw31 : Jvm.Cond.code yX4_add cX4_add 4 (some .int) ∈ lw_tbl := List.mem_of_getElem? (i := 507) rfl
set_option maxRecDepth 100000 in
theorem cw32 : Jvm.Cond.code yX4_isAlive cX4_isAlive 2 (some .boolean) ∈ lw_tbl := List.mem_of_getElem? (i := 515) rfl
set_option maxRecDepth 100000 in
theorem cw33 : Jvm.Cond.code yX5_init cX5_init 1 none ∈ lw_tbl := List.mem_of_getElem? (i := 284) rfl
set_option maxRecDepth 100000 in
theorem cw34 : Jvm.Cond.code yX5_take cX5_take 6 none ∈ lw_tbl := List.mem_of_getElem? (i := 536) rfl
set_option maxRecDepth 100000 in
theorem cw35 : Jvm.Cond.code yX5_takeVersion cX5_takeVersion 4 none ∈ lw_tbl := List.mem_of_getElem? (i := 541) rfl
set_option maxRecDepth 100000 in
theorem cw36 : Jvm.Cond.code yX5_isThere cX5_isThere 2 (some .boolean) ∈ lw_tbl := List.mem_of_getElem? (i := 549) rfl
set_option maxRecDepth 100000 in
theorem cw37 : Jvm.Cond.code yX5_valueOf cX5_valueOf 3 (some .int) ∈ lw_tbl := List.mem_of_getElem? (i := 545) rfl
set_option maxRecDepth 100000 in
theorem cw38 : Jvm.Cond.code yX6_init cX6_init 1 none ∈ lw_tbl := List.mem_of_getElem? (i := 201) rfl
set_option maxRecDepth 100000 in
theorem cw39 : Jvm.Cond.code yX6_append cX6_append 3 none ∈ lw_tbl := List.mem_of_getElem? (i := 566) rfl
set_option maxRecDepth 100000 in
theorem cw40 : Jvm.Cond.code yX6_sortOf cX6_sortOf 1 (some .int) ∈ lw_tbl := List.mem_of_getElem? (i := 569) rfl
set_option maxRecDepth 100000 in
theorem cw41 : Jvm.Cond.code yX6_rewind cX6_rewind 1 none ∈ lw_tbl := List.mem_of_getElem? (i := 589) rfl
set_option maxRecDepth 100000 in
theorem cw42 : Jvm.Cond.code yX6_advance cX6_advance 1 none ∈ lw_tbl := List.mem_of_getElem? (i := 593) rfl
set_option maxRecDepth 100000 in
theorem cw43 : Jvm.Cond.code yX6_takeWord cX6_takeWord 1 none ∈ lw_tbl := List.mem_of_getElem? (i := 597) rfl
set_option maxRecDepth 100000 in
theorem cw44 : Jvm.Cond.code yX6_takeNumber cX6_takeNumber 2 none ∈ lw_tbl := List.mem_of_getElem? (i := 601) rfl
set_option maxRecDepth 100000 in
theorem cw45 : Jvm.Cond.code yX6_reads cX6_reads 3 (some .boolean) ∈ lw_tbl := List.mem_of_getElem? (i := 614) rfl
set_option maxRecDepth 100000 in
theorem cw46 : Jvm.Cond.code yX7_init cX7_init 1 none ∈ lw_tbl := List.mem_of_getElem? (i := 165) rfl
set_option maxRecDepth 100000 in
theorem cw47 : Jvm.Cond.code yX7_add cX7_add 7 none ∈ lw_tbl := List.mem_of_getElem? (i := 524) rfl
set_option maxRecDepth 100000 in
theorem cw48 : Jvm.Cond.code yX8_init cX8_init 1 none ∈ lw_tbl := List.mem_of_getElem? (i := 373) rfl
set_option maxRecDepth 100000 in
theorem cw49 : Jvm.Cond.code yX8_gather cX8_gather 9 none ∈ lw_tbl := List.mem_of_getElem? (i := 835) rfl
set_option maxRecDepth 100000 in
theorem cw50 : Jvm.Cond.code yX8_choose cX8_choose 6 none ∈ lw_tbl := List.mem_of_getElem? (i := 845) rfl
set_option maxRecDepth 100000 in
theorem cw51 : Jvm.Cond.code yX8_isAhead cX8_isAhead 3 (some .boolean) ∈ lw_tbl := List.mem_of_getElem? (i := 861) rfl
set_option maxRecDepth 100000 in
theorem cw52 : Jvm.Cond.code yX8_isFirst cX8_isFirst 3 (some .boolean) ∈ lw_tbl := List.mem_of_getElem? (i := 849) rfl
set_option maxRecDepth 100000 in
theorem cw53 : Jvm.Cond.code yX8_sumFor cX8_sumFor 4 (some .int) ∈ lw_tbl := List.mem_of_getElem? (i := 853) rfl
set_option maxRecDepth 100000 in
theorem cw54 : Jvm.Cond.code yX8_latestFor cX8_latestFor 4 (some .int) ∈ lw_tbl := List.mem_of_getElem? (i := 857) rfl
set_option maxRecDepth 100000 in
theorem cw55 : Jvm.Cond.code yX8_strongestFor cX8_strongestFor 5 (some .int) ∈ lw_tbl := List.mem_of_getElem? (i := 865) rfl
set_option maxRecDepth 100000 in
theorem cw56 : Jvm.Cond.code yX9_init cX9_init 2 none ∈ lw_tbl := List.mem_of_getElem? (i := 124) rfl
set_option maxRecDepth 100000 in
theorem cw57 : Jvm.Cond.code yX9_weight cX9_weight 7 (some .int) ∈ lw_tbl := List.mem_of_getElem? (i := 840) rfl
set_option maxRecDepth 100000 in
theorem cw58 : Jvm.Cond.code yX10_init cX10_init 3 none ∈ lw_tbl := List.mem_of_getElem? (i := 407) rfl
set_option maxRecDepth 100000 in
theorem cw59 : Jvm.Cond.code yX10_add cX10_add 4 none ∈ lw_tbl := List.mem_of_getElem? (i := 901) rfl
set_option maxRecDepth 100000 in
theorem cw60 : Jvm.Cond.code yX10_has cX10_has 5 (some .boolean) ∈ lw_tbl := List.mem_of_getElem? (i := 897) rfl
set_option maxRecDepth 100000 in
theorem cw61 : Jvm.Cond.code yX11_init cX11_init 1 none ∈ lw_tbl := List.mem_of_getElem? (i := 82) rfl
set_option maxRecDepth 100000 in
theorem cw62 : Jvm.Cond.code yX11_trust cX11_trust 4 (some .boolean) ∈ lw_tbl := List.mem_of_getElem? (i := 485) rfl
set_option maxRecDepth 100000 in
theorem cw63 : Jvm.Cond.code yX11_fade cX11_fade 3 (some .boolean) ∈ lw_tbl := List.mem_of_getElem? (i := 495) rfl
set_option maxRecDepth 100000 in
theorem cw64 : Jvm.Cond.code yX11_rights cX11_rights 3 (some .boolean) ∈ lw_tbl := List.mem_of_getElem? (i := 499) rfl
set_option maxRecDepth 100000 in
theorem cw65 : Jvm.Cond.code yX11_row cX11_row 2 (some .int) ∈ lw_tbl := List.mem_of_getElem? (i := 503) rfl
set_option maxRecDepth 100000 in
theorem cw66 : Jvm.Cond.code yX11_set cX11_set 5 (some .int) ∈ lw_tbl := List.mem_of_getElem? (i := 511) rfl
set_option maxRecDepth 100000 in
theorem cw67 : Jvm.Cond.code yX11_value cX11_value 5 (some .int) ∈ lw_tbl := List.mem_of_getElem? (i := 528) rfl
set_option maxRecDepth 100000 in
theorem cw68 : Jvm.Cond.code yX11_forget cX11_forget 2 (some .boolean) ∈ lw_tbl := List.mem_of_getElem? (i := 554) rfl
set_option maxRecDepth 100000 in
theorem cw69 : Jvm.Cond.code yX11_later cX11_later 2 (some .int) ∈ lw_tbl := List.mem_of_getElem? (i := 558) rfl
set_option maxRecDepth 100000 in
theorem cw70 : Jvm.Cond.code yX11_feed cX11_feed 6 (some .int) ∈ lw_tbl := List.mem_of_getElem? (i := 562) rfl
set_option maxRecDepth 100000 in
theorem cw71 : Jvm.Cond.code yX11_end cX11_end 2 (some .int) ∈ lw_tbl := List.mem_of_getElem? (i := 573) rfl
set_option maxRecDepth 100000 in
theorem cw72 : Jvm.Cond.code yX11_rules cX11_rules 3 (some .int) ∈ lw_tbl := List.mem_of_getElem? (i := 577) rfl
set_option maxRecDepth 100000 in
theorem cw73 : Jvm.Cond.code yX11_fault cX11_fault 2 (some .int) ∈ lw_tbl := List.mem_of_getElem? (i := 702) rfl
set_option maxRecDepth 100000 in
theorem cw74 : Jvm.Cond.code yX11_score cX11_score 5 (some .int) ∈ lw_tbl := List.mem_of_getElem? (i := 706) rfl
set_option maxRecDepth 100000 in
theorem cw75 : Jvm.Cond.code yX11_hand cX11_hand 4 (some .int) ∈ lw_tbl := List.mem_of_getElem? (i := 724) rfl
set_option maxRecDepth 100000 in
theorem cw76 : Jvm.Cond.code yX11_unhand cX11_unhand 2 (some .boolean) ∈ lw_tbl := List.mem_of_getElem? (i := 732) rfl
set_option maxRecDepth 100000 in
theorem cw77 : Jvm.Cond.code yX11_persons cX11_persons 3 (some .int) ∈ lw_tbl := List.mem_of_getElem? (i := 740) rfl
set_option maxRecDepth 100000 in
theorem cw78 : Jvm.Cond.code yX11_worth cX11_worth 3 (some .int) ∈ lw_tbl := List.mem_of_getElem? (i := 801) rfl
set_option maxRecDepth 100000 in
theorem cw79 : Jvm.Cond.code yX11_person cX11_person 4 (some .int) ∈ lw_tbl := List.mem_of_getElem? (i := 806) rfl
set_option maxRecDepth 100000 in
theorem cw80 : Jvm.Cond.code yX11_golden cX11_golden 6 (some .int) ∈ lw_tbl := List.mem_of_getElem? (i := 814) rfl
set_option maxRecDepth 100000 in
theorem cw81 : Jvm.Cond.code yX11_from cX11_from 6 (some .int) ∈ lw_tbl := List.mem_of_getElem? (i := 869) rfl
set_option maxRecDepth 100000 in
theorem cw82 : Jvm.Cond.code yX11_torn cX11_torn 6 (some .int) ∈ lw_tbl := List.mem_of_getElem? (i := 873) rfl
set_option maxRecDepth 100000 in
theorem cw83 : Jvm.Cond.code yX11_fix cX11_fix 4 (some .int) ∈ lw_tbl := List.mem_of_getElem? (i := 877) rfl
set_option maxRecDepth 100000 in
theorem cw84 : Jvm.Cond.code yX11_unfix cX11_unfix 2 (some .boolean) ∈ lw_tbl := List.mem_of_getElem? (i := 881) rfl
set_option maxRecDepth 100000 in
theorem cw85 : Jvm.Cond.code yX11_changes cX11_changes 2 (some .int) ∈ lw_tbl := List.mem_of_getElem? (i := 885) rfl
set_option maxRecDepth 100000 in
theorem cw86 : Jvm.Cond.code yX11_change cX11_change 4 (some .int) ∈ lw_tbl := List.mem_of_getElem? (i := 905) rfl
set_option maxRecDepth 100000 in
theorem cw87 : Jvm.Cond.code yX11_accept cX11_accept 3 (some .boolean) ∈ lw_tbl := List.mem_of_getElem? (i := 913) rfl
set_option maxRecDepth 100000 in
theorem cw88 : Jvm.Cond.code yX11_refuse cX11_refuse 3 (some .boolean) ∈ lw_tbl := List.mem_of_getElem? (i := 917) rfl
set_option maxRecDepth 100000 in
theorem cw89 : Jvm.Cond.code yX11_about cX11_about 2 (some .int) ∈ lw_tbl := List.mem_of_getElem? (i := 921) rfl
set_option maxRecDepth 100000 in
theorem cw90 : Jvm.Cond.code yX11_isSource cX11_isSource 1 (some .boolean) ∈ lw_tbl := List.mem_of_getElem? (i := 488) rfl
set_option maxRecDepth 100000 in
theorem cw91 : Jvm.Cond.code yX11_isField cX11_isField 1 (some .boolean) ∈ lw_tbl := List.mem_of_getElem? (i := 491) rfl
set_option maxRecDepth 100000 in
theorem cw92 : Jvm.Cond.code yX11_isValue cX11_isValue 1 (some .boolean) ∈ lw_tbl := List.mem_of_getElem? (i := 518) rfl
set_option maxRecDepth 100000 in
theorem cw93 : Jvm.Cond.code yX11_look cX11_look 3 none ∈ lw_tbl := List.mem_of_getElem? (i := 532) rfl
set_option maxRecDepth 100000 in
theorem cw94 : Jvm.Cond.code yX11_part cX11_part 3 (some .boolean) ∈ lw_tbl := List.mem_of_getElem? (i := 744) rfl
set_option maxRecDepth 100000 in
theorem cw95 : Jvm.Cond.code yX11_personAsked cX11_personAsked 5 (some .int) ∈ lw_tbl := List.mem_of_getElem? (i := 818) rfl
set_option maxRecDepth 100000 in
theorem cw96 : Jvm.Cond.code yX11_hear cX11_hear 3 none ∈ lw_tbl := List.mem_of_getElem? (i := 831) rfl
set_option maxRecDepth 100000 in
theorem cw97 : Jvm.Cond.code yX11_goldenOf cX11_goldenOf 4 (some .int) ∈ lw_tbl := List.mem_of_getElem? (i := 822) rfl
set_option maxRecDepth 100000 in
theorem cw98 : Jvm.Cond.code yX11_latestFix cX11_latestFix 4 (some .int) ∈ lw_tbl := List.mem_of_getElem? (i := 826) rfl
set_option maxRecDepth 100000 in
theorem cw99 : Jvm.Cond.code yX11_hasWish cX11_hasWish 3 (some .boolean) ∈ lw_tbl := List.mem_of_getElem? (i := 909) rfl
set_option maxRecDepth 100000 in
theorem cw100 : Jvm.Cond.code yX11_listWishes cX11_listWishes 3 none ∈ lw_tbl := List.mem_of_getElem? (i := 889) rfl
set_option maxRecDepth 100000 in
theorem cw101 : Jvm.Cond.code yX11_listWishesOf cX11_listWishesOf 6 none ∈ lw_tbl := List.mem_of_getElem? (i := 893) rfl
set_option maxRecDepth 100000 in
theorem cw102 : Jvm.Cond.code yX12_init cX12_init 2 none ∈ lw_tbl := List.mem_of_getElem? (i := 926) rfl
set_option maxRecDepth 100000 in
theorem cw103 : Jvm.Cond.code yX12_isSource cX12_isSource 1 (some .boolean) ∈ lw_tbl := List.mem_of_getElem? (i := 1184) rfl
set_option maxRecDepth 100000 in
theorem cw104 : Jvm.Cond.code yX12_isField cX12_isField 1 (some .boolean) ∈ lw_tbl := List.mem_of_getElem? (i := 1187) rfl
set_option maxRecDepth 100000 in
theorem cw105 : Jvm.Cond.code yX12_trust cX12_trust 4 (some .boolean) ∈ lw_tbl := List.mem_of_getElem? (i := 1181) rfl
set_option maxRecDepth 100000 in
theorem cw106 : Jvm.Cond.code yX12_fade cX12_fade 3 (some .boolean) ∈ lw_tbl := List.mem_of_getElem? (i := 1191) rfl
set_option maxRecDepth 100000 in
theorem cw107 : Jvm.Cond.code yX12_rights cX12_rights 3 (some .boolean) ∈ lw_tbl := List.mem_of_getElem? (i := 1195) rfl
set_option maxRecDepth 100000 in
theorem cw108 : Jvm.Cond.code yX12_row cX12_row 2 (some .int) ∈ lw_tbl := List.mem_of_getElem? (i := 1199) rfl
set_option maxRecDepth 100000 in
theorem cw109 : Jvm.Cond.code yX12_isRow cX12_isRow 2 (some .boolean) ∈ lw_tbl := List.mem_of_getElem? (i := 1207) rfl
set_option maxRecDepth 100000 in
theorem cw110 : Jvm.Cond.code yX12_isThere cX12_isThere 3 (some .boolean) ∈ lw_tbl := List.mem_of_getElem? (i := 1332) rfl
set_option maxRecDepth 100000 in
theorem cw111 : Jvm.Cond.code yX12_isValue cX12_isValue 1 (some .boolean) ∈ lw_tbl := List.mem_of_getElem? (i := 1210) rfl
set_option maxRecDepth 100000 in
theorem cw112 : Jvm.Cond.code yX12_tell cX12_tell 6 none ∈ lw_tbl := List.mem_of_getElem? (i := 1216) rfl
set_option maxRecDepth 100000 in
theorem cw113 : Jvm.Cond.code yX12_set cX12_set 5 (some .int) ∈ lw_tbl := List.mem_of_getElem? (i := 1203) rfl
set_option maxRecDepth 100000 in
theorem cw114 : Jvm.Cond.code yX12_version cX12_version 7 (some .int) ∈ lw_tbl := List.mem_of_getElem? (i := 1228) rfl
set_option maxRecDepth 100000 in
theorem cw115 : Jvm.Cond.code yX12_valueOf cX12_valueOf 6 (some .int) ∈ lw_tbl := List.mem_of_getElem? (i := 1224) rfl
set_option maxRecDepth 100000 in
theorem cw116 : Jvm.Cond.code yX12_value cX12_value 5 (some .int) ∈ lw_tbl := List.mem_of_getElem? (i := 1220) rfl
set_option maxRecDepth 100000 in
theorem cw117 : Jvm.Cond.code yX12_forget cX12_forget 2 (some .boolean) ∈ lw_tbl := List.mem_of_getElem? (i := 1232) rfl
set_option maxRecDepth 100000 in
theorem cw118 : Jvm.Cond.code yX12_later cX12_later 2 (some .int) ∈ lw_tbl := List.mem_of_getElem? (i := 1236) rfl
set_option maxRecDepth 100000 in
theorem cw119 : Jvm.Cond.code yX12_feed cX12_feed 6 (some .int) ∈ lw_tbl := List.mem_of_getElem? (i := 1240) rfl
set_option maxRecDepth 100000 in
theorem cw120 : Jvm.Cond.code yX12_four cX12_four 3 none ∈ lw_tbl := List.mem_of_getElem? (i := 1244) rfl
set_option maxRecDepth 100000 in
theorem cw121 : Jvm.Cond.code yX12_end cX12_end 2 (some .int) ∈ lw_tbl := List.mem_of_getElem? (i := 1248) rfl
set_option maxRecDepth 100000 in
theorem cw122 : Jvm.Cond.code yX12_here cX12_here 2 (some .int) ∈ lw_tbl := List.mem_of_getElem? (i := 1260) rfl
set_option maxRecDepth 100000 in
theorem cw123 : Jvm.Cond.code yX12_isLetter cX12_isLetter 1 (some .boolean) ∈ lw_tbl := List.mem_of_getElem? (i := 1263) rfl
set_option maxRecDepth 100000 in
theorem cw124 : Jvm.Cond.code yX12_isDigit cX12_isDigit 1 (some .boolean) ∈ lw_tbl := List.mem_of_getElem? (i := 1266) rfl
set_option maxRecDepth 100000 in
theorem cw125 : Jvm.Cond.code yX12_next cX12_next 3 none ∈ lw_tbl := List.mem_of_getElem? (i := 1256) rfl
set_option maxRecDepth 100000 in
theorem cw126 : Jvm.Cond.code yX12_wrong cX12_wrong 2 none ∈ lw_tbl := List.mem_of_getElem? (i := 1276) rfl
set_option maxRecDepth 100000 in
theorem cw127 : Jvm.Cond.code yX12_isWord cX12_isWord 3 (some .boolean) ∈ lw_tbl := List.mem_of_getElem? (i := 1271) rfl
set_option maxRecDepth 100000 in
theorem cw128 : Jvm.Cond.code yX12_step cX12_step 4 none ∈ lw_tbl := List.mem_of_getElem? (i := 1307) rfl
set_option maxRecDepth 100000 in
theorem cw129 : Jvm.Cond.code yX12_told cX12_told 4 (some .int) ∈ lw_tbl := List.mem_of_getElem? (i := 1280) rfl
set_option maxRecDepth 100000 in
theorem cw130 : Jvm.Cond.code yX12_hold cX12_hold 2 none ∈ lw_tbl := List.mem_of_getElem? (i := 1311) rfl
set_option maxRecDepth 100000 in
theorem cw131 : Jvm.Cond.code yX12_pop cX12_pop 1 none ∈ lw_tbl := List.mem_of_getElem? (i := 1303) rfl
set_option maxRecDepth 100000 in
theorem cw132 : Jvm.Cond.code yX12_settle cX12_settle 4 none ∈ lw_tbl := List.mem_of_getElem? (i := 1299) rfl
set_option maxRecDepth 100000 in
theorem cw133 : Jvm.Cond.code yX12_isOpen cX12_isOpen 3 (some .boolean) ∈ lw_tbl := List.mem_of_getElem? (i := 1289) rfl
set_option maxRecDepth 100000 in
theorem cw134 : Jvm.Cond.code yX12_readE cX12_readE 2 none ∈ lw_tbl := List.mem_of_getElem? (i := 1285) rfl
set_option maxRecDepth 100000 in
theorem cw135 : Jvm.Cond.code yX12_operand cX12_operand 6 (some .boolean) ∈ lw_tbl := List.mem_of_getElem? (i := 1315) rfl
set_option maxRecDepth 100000 in
theorem cw136 : Jvm.Cond.code yX12_sign cX12_sign 2 (some .boolean) ∈ lw_tbl := List.mem_of_getElem? (i := 1293) rfl
set_option maxRecDepth 100000 in
theorem cw137 : Jvm.Cond.code yX12_rules cX12_rules 3 (some .int) ∈ lw_tbl := List.mem_of_getElem? (i := 1252) rfl
set_option maxRecDepth 100000 in
theorem cw138 : Jvm.Cond.code yX12_fault cX12_fault 2 (some .int) ∈ lw_tbl := List.mem_of_getElem? (i := 1324) rfl
set_option maxRecDepth 100000 in
theorem cw139 : Jvm.Cond.code yX12_holds cX12_holds 12 (some .boolean) ∈ lw_tbl := List.mem_of_getElem? (i := 1340) rfl
set_option maxRecDepth 100000 in
theorem cw140 : Jvm.Cond.code yX12_scoreOf cX12_scoreOf 7 (some .int) ∈ lw_tbl := List.mem_of_getElem? (i := 1336) rfl
set_option maxRecDepth 100000 in
theorem cw141 : Jvm.Cond.code yX12_score cX12_score 5 (some .int) ∈ lw_tbl := List.mem_of_getElem? (i := 1328) rfl
set_option maxRecDepth 100000 in
theorem cw142 : Jvm.Cond.code yX12_isKnown cX12_isKnown 3 (some .boolean) ∈ lw_tbl := List.mem_of_getElem? (i := 1367) rfl
set_option maxRecDepth 100000 in
theorem cw143 : Jvm.Cond.code yX12_hand cX12_hand 4 (some .int) ∈ lw_tbl := List.mem_of_getElem? (i := 1344) rfl
set_option maxRecDepth 100000 in
theorem cw144 : Jvm.Cond.code yX12_unhand cX12_unhand 2 (some .boolean) ∈ lw_tbl := List.mem_of_getElem? (i := 1348) rfl
set_option maxRecDepth 100000 in
theorem cw145 : Jvm.Cond.code yX12_fix cX12_fix 4 (some .int) ∈ lw_tbl := List.mem_of_getElem? (i := 1352) rfl
set_option maxRecDepth 100000 in
theorem cw146 : Jvm.Cond.code yX12_unfix cX12_unfix 2 (some .boolean) ∈ lw_tbl := List.mem_of_getElem? (i := 1356) rfl
set_option maxRecDepth 100000 in
theorem cw147 : Jvm.Cond.code yX12_part cX12_part 8 none ∈ lw_tbl := List.mem_of_getElem? (i := 1364) rfl
set_option maxRecDepth 100000 in
theorem cw148 : Jvm.Cond.code yX12_canBe cX12_canBe 7 (some .boolean) ∈ lw_tbl := List.mem_of_getElem? (i := 1371) rfl
set_option maxRecDepth 100000 in
theorem cw149 : Jvm.Cond.code yX12_look cX12_look 2 none ∈ lw_tbl := List.mem_of_getElem? (i := 1375) rfl
set_option maxRecDepth 100000 in
theorem cw150 : Jvm.Cond.code yX12_persons cX12_persons 3 (some .int) ∈ lw_tbl := List.mem_of_getElem? (i := 1360) rfl
set_option maxRecDepth 100000 in
theorem cw151 : Jvm.Cond.code yX12_worth cX12_worth 3 (some .int) ∈ lw_tbl := List.mem_of_getElem? (i := 1379) rfl
set_option maxRecDepth 100000 in
theorem cw152 : Jvm.Cond.code yX12_person cX12_person 4 (some .int) ∈ lw_tbl := List.mem_of_getElem? (i := 1384) rfl
set_option maxRecDepth 100000 in
theorem cw153 : Jvm.Cond.code yX12_gold cX12_gold 11 none ∈ lw_tbl := List.mem_of_getElem? (i := 1396) rfl
set_option maxRecDepth 100000 in
theorem cw154 : Jvm.Cond.code yX12_tells cX12_tells 5 (some .boolean) ∈ lw_tbl := List.mem_of_getElem? (i := 1392) rfl
set_option maxRecDepth 100000 in
theorem cw155 : Jvm.Cond.code yX12_golden cX12_golden 5 (some .int) ∈ lw_tbl := List.mem_of_getElem? (i := 1388) rfl
set_option maxRecDepth 100000 in
theorem cw156 : Jvm.Cond.code yX12_from cX12_from 5 (some .int) ∈ lw_tbl := List.mem_of_getElem? (i := 1402) rfl
set_option maxRecDepth 100000 in
theorem cw157 : Jvm.Cond.code yX12_torn cX12_torn 5 (some .int) ∈ lw_tbl := List.mem_of_getElem? (i := 1406) rfl
set_option maxRecDepth 100000 in
theorem cw158 : Jvm.Cond.code yX12_isRefused cX12_isRefused 6 (some .boolean) ∈ lw_tbl := List.mem_of_getElem? (i := 1418) rfl
set_option maxRecDepth 100000 in
theorem cw159 : Jvm.Cond.code yX12_seek cX12_seek 4 none ∈ lw_tbl := List.mem_of_getElem? (i := 1414) rfl
set_option maxRecDepth 100000 in
theorem cw160 : Jvm.Cond.code yX12_changes cX12_changes 2 (some .int) ∈ lw_tbl := List.mem_of_getElem? (i := 1410) rfl
set_option maxRecDepth 100000 in
theorem cw161 : Jvm.Cond.code yX12_isChange cX12_isChange 3 (some .boolean) ∈ lw_tbl := List.mem_of_getElem? (i := 1426) rfl
set_option maxRecDepth 100000 in
theorem cw162 : Jvm.Cond.code yX12_change cX12_change 4 (some .int) ∈ lw_tbl := List.mem_of_getElem? (i := 1422) rfl
set_option maxRecDepth 100000 in
theorem cw163 : Jvm.Cond.code yX12_accept cX12_accept 3 (some .boolean) ∈ lw_tbl := List.mem_of_getElem? (i := 1430) rfl
set_option maxRecDepth 100000 in
theorem cw164 : Jvm.Cond.code yX12_refuse cX12_refuse 3 (some .boolean) ∈ lw_tbl := List.mem_of_getElem? (i := 1434) rfl
set_option maxRecDepth 100000 in
theorem cw165 : Jvm.Cond.code yX12_about cX12_about 2 (some .int) ∈ lw_tbl := List.mem_of_getElem? (i := 1438) rfl
set_option maxRecDepth 100000 in
theorem cw166 : Jvm.Cond.code yJ6_bitCount_0f7a4 cJ6_bitCount_0f7a4 1 (some .int) ∈ lw_tbl := List.mem_of_getElem? (i := 786) rfl
set_option maxRecDepth 100000 in
theorem cw167 : Jvm.Cond.code yJ0_length_8abf5 cJ0_length_8abf5 1 (some .int) ∈ lw_tbl := List.mem_of_getElem? (i := 618) rfl
set_option maxRecDepth 100000 in
theorem cw168 : Jvm.Cond.code yJ0_charAt_5068e cJ0_charAt_5068e 2 (some .char) ∈ lw_tbl := List.mem_of_getElem? (i := 628) rfl
set_option maxRecDepth 100000 in
theorem cw169 : Jvm.Cond.code yJ0_coder_7d493 cJ0_coder_7d493 1 (some .byte) ∈ lw_tbl := List.mem_of_getElem? (i := 622) rfl
set_option maxRecDepth 100000 in
theorem cw170 : Jvm.Cond.code yJ0_isLatin1_aae02 cJ0_isLatin1_aae02 1 (some .boolean) ∈ lw_tbl := List.mem_of_getElem? (i := 632) rfl
set_option maxRecDepth 100000 in
theorem cw171 : Jvm.Cond.code yJ0_checkIndex_df160 cJ0_checkIndex_df160 2 none ∈ lw_tbl := List.mem_of_getElem? (i := 638) rfl
set_option maxRecDepth 100000 in
theorem cw172 : Jvm.Cond.code yJ1_charAt_3b067 cJ1_charAt_3b067 2 (some .char) ∈ lw_tbl := List.mem_of_getElem? (i := 635) rfl
set_option maxRecDepth 100000 in
theorem cw173 : Jvm.Cond.code yJ3_checkIndex_8e157 cJ3_checkIndex_8e157 3 (some .int) ∈ lw_tbl := List.mem_of_getElem? (i := 643) rfl
def mwI : List (Nat × Nat × Nat) := [(60, 89, 0), (60, 583, 584), (60, 680, 681), (60, 695, 696), (60, 709, 710), (60, 714, 10), (60, 719, 11), (66, 247, 0), (66, 726, 727), (66, 734, 735), (66, 754, 755), (65, 232, 0), (65, 579, 580), (65, 604, 4), (65, 608, 5), (65, 667, 6), (65, 672, 7), (65, 676, 8), (65, 685, 9), (69, 316, 0), (69, 808, 809), (69, 746, 747), (69, 750, 751), (69, 758, 759), (69, 763, 764), (69, 768, 13), (69, 772, 14), (69, 777, 15), (69, 781, 16), (69, 795, 17), (62, 138, 0), (62, 505, 506), (62, 513, 514), (68, 283, 0), (68, 534, 535), (68, 540, 1), (68, 547, 548), (68, 543, 544), (64, 200, 0), (64, 564, 565), (64, 568, 0), (64, 587, 588), (64, 591, 592), (64, 596, 2), (64, 600, 3), (64, 612, 613), (63, 164, 0), (63, 522, 523), (70, 372, 0), (70, 833, 834), (70, 843, 844), (70, 860, 0), (70, 848, 22), (70, 852, 23), (70, 856, 24), (70, 864, 25), (61, 123, 0), (61, 838, 839), (71, 406, 0), (71, 899, 900), (71, 895, 896), (59, 81, 0), (59, 483, 484), (59, 493, 494), (59, 497, 498), (59, 501, 502), (59, 509, 510), (59, 526, 527), (59, 552, 553), (59, 556, 557), (59, 560, 561), (59, 571, 572), (59, 575, 576), (59, 700, 701), (59, 704, 705), (59, 722, 723), (59, 730, 731), (59, 738, 739), (59, 799, 800), (59, 804, 805), (59, 812, 813), (59, 867, 868), (59, 871, 872), (59, 875, 876), (59, 879, 880), (59, 883, 884), (59, 903, 904), (59, 911, 912), (59, 915, 916), (59, 919, 920), (59, 487, 0), (59, 490, 0), (59, 517, 0), (59, 531, 0), (59, 743, 12), (59, 817, 18), (59, 830, 21), (59, 821, 19), (59, 825, 20), (59, 908, 28), (59, 888, 26), (59, 892, 27), (72, 925, 0), (72, 1183, 0), (72, 1186, 0), (72, 1179, 1180), (72, 1189, 1190), (72, 1193, 1194), (72, 1197, 1198), (72, 1206, 29), (72, 1331, 47), (72, 1209, 0), (72, 1215, 30), (72, 1201, 1202), (72, 1227, 32), (72, 1223, 31), (72, 1218, 1219), (72, 1230, 1231), (72, 1234, 1235), (72, 1238, 1239), (72, 1243, 33), (72, 1246, 1247), (72, 1259, 35), (72, 1262, 0), (72, 1265, 0), (72, 1255, 34), (72, 1275, 37), (72, 1270, 36), (72, 1306, 44), (72, 1279, 38), (72, 1310, 45), (72, 1302, 43), (72, 1298, 42), (72, 1288, 40), (72, 1284, 39), (72, 1314, 46), (72, 1292, 41), (72, 1250, 1251), (72, 1322, 1323), (72, 1339, 49), (72, 1335, 48), (72, 1326, 1327), (72, 1366, 0), (72, 1342, 1343), (72, 1346, 1347), (72, 1350, 1351), (72, 1354, 1355), (72, 1363, 50), (72, 1370, 51), (72, 1374, 52), (72, 1358, 1359), (72, 1377, 1378), (72, 1382, 1383), (72, 1395, 54), (72, 1391, 53), (72, 1386, 1387), (72, 1400, 1401), (72, 1404, 1405), (72, 1417, 56), (72, 1413, 55), (72, 1408, 1409), (72, 1425, 57), (72, 1420, 1421), (72, 1428, 1429), (72, 1432, 1433), (72, 1436, 1437), (77, 785, 0), (73, 616, 617), (73, 626, 627), (73, 620, 621), (73, 630, 631), (73, 637, 0), (74, 634, 0), (75, 642, 0), (0, 0, 0)]
def narL : List Nat := [0, 0, 3, 1, 4, 6, 5, 1, 4, 2, 2, 0, 2, 2, 2, 3, 3, 3, 2, 0, 1, 1, 2, 3, 0, 0, 1, 0, 2, 1, 0, 2, 1, 0, 4, 2, 1, 2, 0, 1, 1, 0, 0, 0, 0, 1, 0, 6, 0, 6, 0, 3, 1, 1, 1, 1, 0, 3, 1, 3, 3, 0, 3, 2, 2, 1, 4, 4, 1, 1, 5, 1, 0, 1, 4, 3, 1, 2, 2, 3, 4, 4, 4, 3, 1, 1, 3, 2, 2, 1, 1, 1, 1, 2, 2, 4, 2, 2, 2, 2, 1, 2, 0, 1, 1, 3, 2, 2, 1, 1, 2, 1, 5, 4, 4, 4, 4, 1, 1, 5, 1, 1, 1, 1, 1, 0, 1, 1, 3, 2, 1, 0, 1, 0, 0, 0, 0, 0, 1, 5, 4, 4, 3, 3, 1, 3, 1, 2, 2, 0, 2, 2, 3, 4, 4, 4, 4, 4, 3, 1, 1, 2, 3, 2, 2, 1, 1, 0, 1, 0, 0, 2, 2, 3, 1]
def nar (k : Nat) : Nat := narL.getD k 0
def mwB (k : Nat) : Bool :=
  decide (lw_tbl[(mwI.getD k (0, 0, 0)).1]? = some (Jvm.Cond.initialized (ynm k).cls)) &&
  decide (lw_tbl[(mwI.getD k (0, 0, 0)).2.1]? = some (if knd k = 0 then Jvm.Cond.static (ynm k) else Jvm.Cond.instanceMethod (ynm k))) &&
  (knd k != 1 || decide (lw_tbl[(mwI.getD k (0, 0, 0)).2.2]? = some (Jvm.Cond.selects (ynm k).cls (ynm k) (ynm k)))) &&
  decide ((ynm k).cls ≠ "java/lang/invoke/MethodHandle" ∧ (ynm k).cls ≠ "java/lang/invoke/VarHandle" ∧ (parseMethodDescriptor (ynm k).desc).map (fun d => d.parameters.length) = some (nar k)) &&
  plainName (ynm k).cls && decide (rn_ (own k) = (ynm k).cls) && (knd k != 2 || decide ((ynm k).name = "<init>")) && decide (mxl k + 19 ≤ 64)
theorem mw_0 : ((List.range 29).map (· + 0)).all mwB = true := by decide +kernel
theorem mw_29 : ((List.range 29).map (· + 29)).all mwB = true := by decide +kernel
theorem mw_58 : ((List.range 29).map (· + 58)).all mwB = true := by decide +kernel
theorem mw_87 : ((List.range 29).map (· + 87)).all mwB = true := by decide +kernel
theorem mw_116 : ((List.range 29).map (· + 116)).all mwB = true := by decide +kernel
theorem mw_145 : ((List.range 29).map (· + 145)).all mwB = true := by decide +kernel
theorem mw : ∀ k, k < 174 → mwB k = true := by
  intro k hk
  have key : ∀ n, ((List.range 29).map (· + n)).all mwB = true → n ≤ k → k < n + 29 → mwB k = true := fun n h h1 h2 => List.all_eq_true.mp h k (List.mem_map.mpr ⟨k - n, List.mem_range.mpr (by omega), by omega⟩)
  rcases (show k < 29 ∨ (29 ≤ k ∧ k < 58) ∨ (58 ≤ k ∧ k < 87) ∨ (87 ≤ k ∧ k < 116) ∨ (116 ≤ k ∧ k < 145) ∨ (145 ≤ k ∧ k < 174) by omega) with h | h | h | h | h | h
  · exact key 0 mw_0 (by omega) (by omega)
  · exact key 29 mw_29 h.1 (by omega)
  · exact key 58 mw_58 h.1 (by omega)
  · exact key 87 mw_87 h.1 (by omega)
  · exact key 116 mw_116 h.1 (by omega)
  · exact key 145 mw_145 h.1 (by omega)
/-- code lists beside method rows -/
def okAll : List (List AE) → List (MethodName × ByteArray × Nat × Option FieldType × Nat × Nat) → Prop
  | c :: cs, m :: ms => c.all (okE m.2.1 m.2.2.2.2.1 m.2.2.2.2.2) = true ∧ okAll cs ms
  | [], [] => True
  | _, _ => False
def cwAll : List (MethodName × ByteArray × Nat × Option FieldType × Nat × Nat) → Prop
  | [] => True
  | [_] => True
  | m :: n :: ms => Jvm.Cond.code m.1 m.2.1 m.2.2.1 m.2.2.2.1 ∈ lw_tbl ∧ cwAll (n :: ms)
set_option maxRecDepth 20000 in
theorem okAll_t : okAll cT mT := And.intro ok0 (And.intro ok1 (And.intro ok2 (And.intro ok3 (And.intro ok4 (And.intro ok5 (And.intro ok6 (And.intro ok7 (And.intro ok8 (And.intro ok9 (And.intro ok10 (And.intro ok11 (And.intro ok12 (And.intro ok13 (And.intro ok14 (And.intro ok15 (And.intro ok16 (And.intro ok17 (And.intro ok18 (And.intro ok19 (And.intro ok20 (And.intro ok21 (And.intro ok22 (And.intro ok23 (And.intro ok24 (And.intro ok25 (And.intro ok26 (And.intro ok27 (And.intro ok28 (And.intro ok29 (And.intro ok30 (And.intro ok31 (And.intro ok32 (And.intro ok33 (And.intro ok34 (And.intro ok35 (And.intro ok36 (And.intro ok37 (And.intro ok38 (And.intro ok39 (And.intro ok40 (And.intro ok41 (And.intro ok42 (And.intro ok43 (And.intro ok44 (And.intro ok45 (And.intro ok46 (And.intro ok47 (And.intro ok48 (And.intro ok49 (And.intro ok50 (And.intro ok51 (And.intro ok52 (And.intro ok53 (And.intro ok54 (And.intro ok55 (And.intro ok56 (And.intro ok57 (And.intro ok58 (And.intro ok59 (And.intro ok60 (And.intro ok61 (And.intro ok62 (And.intro ok63 (And.intro ok64 (And.intro ok65 (And.intro ok66 (And.intro ok67 (And.intro ok68 (And.intro ok69 (And.intro ok70 (And.intro ok71 (And.intro ok72 (And.intro ok73 (And.intro ok74 (And.intro ok75 (And.intro ok76 (And.intro ok77 (And.intro ok78 (And.intro ok79 (And.intro ok80 (And.intro ok81 (And.intro ok82 (And.intro ok83 (And.intro ok84 (And.intro ok85 (And.intro ok86 (And.intro ok87 (And.intro ok88 (And.intro ok89 (And.intro ok90 (And.intro ok91 (And.intro ok92 (And.intro ok93 (And.intro ok94 (And.intro ok95 (And.intro ok96 (And.intro ok97 (And.intro ok98 (And.intro ok99 (And.intro ok100 (And.intro ok101 (And.intro ok102 (And.intro ok103 (And.intro ok104 (And.intro ok105 (And.intro ok106 (And.intro ok107 (And.intro ok108 (And.intro ok109 (And.intro ok110 (And.intro ok111 (And.intro ok112 (And.intro ok113 (And.intro ok114 (And.intro ok115 (And.intro ok116 (And.intro ok117 (And.intro ok118 (And.intro ok119 (And.intro ok120 (And.intro ok121 (And.intro ok122 (And.intro ok123 (And.intro ok124 (And.intro ok125 (And.intro ok126 (And.intro ok127 (And.intro ok128 (And.intro ok129 (And.intro ok130 (And.intro ok131 (And.intro ok132 (And.intro ok133 (And.intro ok134 (And.intro ok135 (And.intro ok136 (And.intro ok137 (And.intro ok138 (And.intro ok139 (And.intro ok140 (And.intro ok141 (And.intro ok142 (And.intro ok143 (And.intro ok144 (And.intro ok145 (And.intro ok146 (And.intro ok147 (And.intro ok148 (And.intro ok149 (And.intro ok150 (And.intro ok151 (And.intro ok152 (And.intro ok153 (And.intro ok154 (And.intro ok155 (And.intro ok156 (And.intro ok157 (And.intro ok158 (And.intro ok159 (And.intro ok160 (And.intro ok161 (And.intro ok162 (And.intro ok163 (And.intro ok164 (And.intro ok165 (And.intro ok166 (And.intro ok167 (And.intro ok168 (And.intro ok169 (And.intro ok170 (And.intro ok171 (And.intro ok172 (And.intro ok173 (And.intro ok174 (True.intro)))))))))))))))))))))))))))))))))))))))))))))))))))))))))))))))))))))))))))))))))))))))))))))))))))))))))))))))))))))))))))))))))))))))))))))))))))))))))))))))))))))))))))))))
set_option maxRecDepth 20000 in
theorem cwAll_t : cwAll mT := And.intro cw0 (And.intro cw1 (And.intro cw2 (And.intro cw3 (And.intro cw4 (And.intro cw5 (And.intro cw6 (And.intro cw7 (And.intro cw8 (And.intro cw9 (And.intro cw10 (And.intro cw11 (And.intro cw12 (And.intro cw13 (And.intro cw14 (And.intro cw15 (And.intro cw16 (And.intro cw17 (And.intro cw18 (And.intro cw19 (And.intro cw20 (And.intro cw21 (And.intro cw22 (And.intro cw23 (And.intro cw24 (And.intro cw25 (And.intro cw26 (And.intro cw27 (And.intro cw28 (And.intro cw29 (And.intro cw30 (And.intro cw31 (And.intro cw32 (And.intro cw33 (And.intro cw34 (And.intro cw35 (And.intro cw36 (And.intro cw37 (And.intro cw38 (And.intro cw39 (And.intro cw40 (And.intro cw41 (And.intro cw42 (And.intro cw43 (And.intro cw44 (And.intro cw45 (And.intro cw46 (And.intro cw47 (And.intro cw48 (And.intro cw49 (And.intro cw50 (And.intro cw51 (And.intro cw52 (And.intro cw53 (And.intro cw54 (And.intro cw55 (And.intro cw56 (And.intro cw57 (And.intro cw58 (And.intro cw59 (And.intro cw60 (And.intro cw61 (And.intro cw62 (And.intro cw63 (And.intro cw64 (And.intro cw65 (And.intro cw66 (And.intro cw67 (And.intro cw68 (And.intro cw69 (And.intro cw70 (And.intro cw71 (And.intro cw72 (And.intro cw73 (And.intro cw74 (And.intro cw75 (And.intro cw76 (And.intro cw77 (And.intro cw78 (And.intro cw79 (And.intro cw80 (And.intro cw81 (And.intro cw82 (And.intro cw83 (And.intro cw84 (And.intro cw85 (And.intro cw86 (And.intro cw87 (And.intro cw88 (And.intro cw89 (And.intro cw90 (And.intro cw91 (And.intro cw92 (And.intro cw93 (And.intro cw94 (And.intro cw95 (And.intro cw96 (And.intro cw97 (And.intro cw98 (And.intro cw99 (And.intro cw100 (And.intro cw101 (And.intro cw102 (And.intro cw103 (And.intro cw104 (And.intro cw105 (And.intro cw106 (And.intro cw107 (And.intro cw108 (And.intro cw109 (And.intro cw110 (And.intro cw111 (And.intro cw112 (And.intro cw113 (And.intro cw114 (And.intro cw115 (And.intro cw116 (And.intro cw117 (And.intro cw118 (And.intro cw119 (And.intro cw120 (And.intro cw121 (And.intro cw122 (And.intro cw123 (And.intro cw124 (And.intro cw125 (And.intro cw126 (And.intro cw127 (And.intro cw128 (And.intro cw129 (And.intro cw130 (And.intro cw131 (And.intro cw132 (And.intro cw133 (And.intro cw134 (And.intro cw135 (And.intro cw136 (And.intro cw137 (And.intro cw138 (And.intro cw139 (And.intro cw140 (And.intro cw141 (And.intro cw142 (And.intro cw143 (And.intro cw144 (And.intro cw145 (And.intro cw146 (And.intro cw147 (And.intro cw148 (And.intro cw149 (And.intro cw150 (And.intro cw151 (And.intro cw152 (And.intro cw153 (And.intro cw154 (And.intro cw155 (And.intro cw156 (And.intro cw157 (And.intro cw158 (And.intro cw159 (And.intro cw160 (And.intro cw161 (And.intro cw162 (And.intro cw163 (And.intro cw164 (And.intro cw165 (And.intro cw166 (And.intro cw167 (And.intro cw168 (And.intro cw169 (And.intro cw170 (And.intro cw171 (And.intro cw172 (And.intro cw173 (True.intro))))))))))))))))))))))))))))))))))))))))))))))))))))))))))))))))))))))))))))))))))))))))))))))))))))))))))))))))))))))))))))))))))))))))))))))))))))))))))))))))))))))))))))))
theorem okAll_at : ∀ (cs : List (List AE)) (ms : List (MethodName × ByteArray × Nat × Option FieldType × Nat × Nat)) (k : Nat) (d : MethodName × ByteArray × Nat × Option FieldType × Nat × Nat), okAll cs ms → (cs.getD k []).all (okE (ms.getD k d).2.1 (ms.getD k d).2.2.2.2.1 (ms.getD k d).2.2.2.2.2) = true
  | [], [], k, d, _ => by simp
  | [], _ :: _, _, _, h => h.elim
  | _ :: _, [], _, _, h => h.elim
  | c :: cs, m :: ms, 0, d, h => by simpa using h.1
  | c :: cs, m :: ms, k + 1, d, h => by simpa using okAll_at cs ms k d h.2
theorem okK (k : Nat) : ∀ e ∈ cod k, okE (byt k) (own k) (knd k) e = true := List.all_eq_true.mp (okAll_at cT mT k _ okAll_t)
theorem cwAll_at : ∀ (ms : List (MethodName × ByteArray × Nat × Option FieldType × Nat × Nat)) (k : Nat) (d : MethodName × ByteArray × Nat × Option FieldType × Nat × Nat), cwAll ms → k + 1 < ms.length → Jvm.Cond.code (ms.getD k d).1 (ms.getD k d).2.1 (ms.getD k d).2.2.1 (ms.getD k d).2.2.2.1 ∈ lw_tbl
  | [], k, d, _, h => by simp at h
  | [_], k, d, _, h => by simp at h
  | m :: n :: ms, 0, d, h, _ => by simpa using h.1
  | m :: n :: ms, k + 1, d, h, h2 => by simpa using cwAll_at (n :: ms) k d h.2 (by simpa using h2)
theorem cwK (k : Nat) (h : k < 174) : Jvm.Cond.code (ynm k) (byt k) (mxl k) (rty k) ∈ tb := tb_in (cwAll_at mT k _ cwAll_t (by rw [show mT.length = 175 from rfl]; omega)) rfl
def en (cs : List AE) (pc : Nat) : Option AE := cs.find? (fun e => Nat.beq e.1 pc)
theorem en_mem {cs : List AE} {pc : Nat} {e : AE} (h : en cs pc = some e) : e ∈ cs ∧ e.1 = pc := ⟨List.mem_of_find?_eq_some h, Nat.eq_of_beq_eq_true (List.find?_some (p := fun e : AE => Nat.beq e.1 pc) h)⟩
theorem okD {k pc : Nat} {e : AE} (h : en (cod k) pc = some e) : decode (byt k) pc = .ok (e.2.1, e.2.2.1) := by
  have h2 := okK k e (en_mem h).1
  unfold okE at h2
  rw [Bool.and_eq_true] at h2
  rw [← (en_mem h).2]
  exact of_decide_eq_true h2.1
