set_option maxRecDepth 100000 in
theorem con_X11_init_0 (l : Launch) (E : AX) : Con l E 2 61 [vR 0] W1 73 8129 (fun rt w => rt = none ∧ w = W184) := by
  refine con_intro (by decide) (by decide) ?_
  show Rch l E 2 61 _ _ _ _ (0, [some (vR 0)], [], W1)
  refine rch_run rfl (by decide) 3 (t' := (5, [some (vR 0)], [vR 0], W1)) (ps := []) rfl trivial ?_
  refine rch_new rfl (t' := (8, [some (vR 0)], [vR 1, vR 0], W2)) rfl ⟨by decide, by decide⟩ (by decide) ?_
  refine rch_run rfl (by decide) 1 (t' := (9, [some (vR 0)], [vR 1, vR 1, vR 0], W2)) (ps := []) rfl trivial ?_
  refine rch_call (h' := 1) (k' := 0) (as := [vR 1]) (t1 := (12, [some (vR 0)], [vR 1, vR 0], W2)) rfl rfl (con_X0_init_1 l E) (by decide) ⟨by decide, by decide⟩ ?_
  rintro rt w9 ⟨rfl, rfl⟩ _ _
  show Rch l E 2 61 _ _ _ _ (12, [some (vR 0)], [vR 1, vR 0], W12)
  refine rch_run rfl (by decide) 2 (t' := (16, [some (vR 0)], [vR 0], W13)) (ps := []) rfl trivial ?_
  refine rch_new rfl (t' := (19, [some (vR 0)], [vR 7, vR 0], W14)) rfl ⟨by decide, by decide⟩ (by decide) ?_
  refine rch_run rfl (by decide) 1 (t' := (20, [some (vR 0)], [vR 7, vR 7, vR 0], W14)) (ps := []) rfl trivial ?_
  refine rch_call (h' := 1) (k' := 0) (as := [vR 7]) (t1 := (23, [some (vR 0)], [vR 7, vR 0], W14)) rfl rfl (con_X0_init_7 l E) (by decide) ⟨by decide, by decide⟩ ?_
  rintro rt w9 ⟨rfl, rfl⟩ _ _
  show Rch l E 2 61 _ _ _ _ (23, [some (vR 0)], [vR 7, vR 0], W24)
  refine rch_run rfl (by decide) 2 (t' := (27, [some (vR 0)], [vR 0], W25)) (ps := []) rfl trivial ?_
  refine rch_new rfl (t' := (30, [some (vR 0)], [vR 13, vR 0], W26)) rfl ⟨by decide, by decide⟩ (by decide) ?_
  refine rch_run rfl (by decide) 1 (t' := (31, [some (vR 0)], [vR 13, vR 13, vR 0], W26)) (ps := []) rfl trivial ?_
  refine rch_call (h' := 1) (k' := 56) (as := [vR 13]) (t1 := (34, [some (vR 0)], [vR 13, vR 0], W26)) rfl rfl (con_X9_init_13 l E) (by decide) ⟨by decide, by decide⟩ ?_
  rintro rt w9 ⟨rfl, rfl⟩ _ _
  show Rch l E 2 61 _ _ _ _ (34, [some (vR 0)], [vR 13, vR 0], W66)
  refine rch_run rfl (by decide) 3 (t' := (40, [some (vR 0)], [vI 6, vR 0], W67)) (ps := []) rfl trivial ?_
  refine rch_new rfl (t' := (42, [some (vR 0)], [vR 16, vR 0], W68)) rfl ⟨by decide, by decide⟩ (by decide) ?_
  refine rch_run rfl (by decide) 2 (t' := (46, [some (vR 0)], [vR 0], W69)) (ps := []) rfl trivial ?_
  refine rch_new rfl (t' := (49, [some (vR 0)], [vR 17, vR 0], W70)) rfl ⟨by decide, by decide⟩ (by decide) ?_
  refine rch_run rfl (by decide) 1 (t' := (50, [some (vR 0)], [vR 17, vR 17, vR 0], W70)) (ps := []) rfl trivial ?_
  refine rch_call (h' := 1) (k' := 30) (as := [vR 17]) (t1 := (53, [some (vR 0)], [vR 17, vR 0], W70)) rfl rfl (con_X4_init_17 l E) (by decide) ⟨by decide, by decide⟩ ?_
  rintro rt w9 ⟨rfl, rfl⟩ _ _
  show Rch l E 2 61 _ _ _ _ (53, [some (vR 0)], [vR 17, vR 0], W76)
  refine rch_run rfl (by decide) 2 (t' := (57, [some (vR 0)], [vR 0], W77)) (ps := []) rfl trivial ?_
  refine rch_new rfl (t' := (60, [some (vR 0)], [vR 21, vR 0], W78)) rfl ⟨by decide, by decide⟩ (by decide) ?_
  refine rch_run rfl (by decide) 1 (t' := (61, [some (vR 0)], [vR 21, vR 21, vR 0], W78)) (ps := []) rfl trivial ?_
  refine rch_call (h' := 1) (k' := 46) (as := [vR 21]) (t1 := (64, [some (vR 0)], [vR 21, vR 0], W78)) rfl rfl (con_X7_init_21 l E) (by decide) ⟨by decide, by decide⟩ ?_
  rintro rt w9 ⟨rfl, rfl⟩ _ _
  show Rch l E 2 61 _ _ _ _ (64, [some (vR 0)], [vR 21, vR 0], W90)
  refine rch_run rfl (by decide) 2 (t' := (68, [some (vR 0)], [vR 0], W91)) (ps := []) rfl trivial ?_
  refine rch_new rfl (t' := (71, [some (vR 0)], [vR 28, vR 0], W92)) rfl ⟨by decide, by decide⟩ (by decide) ?_
  refine rch_run rfl (by decide) 1 (t' := (72, [some (vR 0)], [vR 28, vR 28, vR 0], W92)) (ps := []) rfl trivial ?_
  refine rch_call (h' := 1) (k' := 38) (as := [vR 28]) (t1 := (75, [some (vR 0)], [vR 28, vR 0], W92)) rfl rfl (con_X6_init_28 l E) (by decide) ⟨by decide, by decide⟩ ?_
  rintro rt w9 ⟨rfl, rfl⟩ _ _
  show Rch l E 2 61 _ _ _ _ (75, [some (vR 0)], [vR 28, vR 0], W96)
  refine rch_run rfl (by decide) 2 (t' := (79, [some (vR 0)], [vR 0], W97)) (ps := []) rfl trivial ?_
  refine rch_new rfl (t' := (82, [some (vR 0)], [vR 31, vR 0], W98)) rfl ⟨by decide, by decide⟩ (by decide) ?_
  refine rch_run rfl (by decide) 1 (t' := (83, [some (vR 0)], [vR 31, vR 31, vR 0], W98)) (ps := []) rfl trivial ?_
  refine rch_call (h' := 1) (k' := 11) (as := [vR 31]) (t1 := (86, [some (vR 0)], [vR 31, vR 0], W98)) rfl rfl (con_X2_init_31 l E) (by decide) ⟨by decide, by decide⟩ ?_
  rintro rt w9 ⟨rfl, rfl⟩ _ _
  show Rch l E 2 61 _ _ _ _ (86, [some (vR 0)], [vR 31, vR 0], W99)
  refine rch_run rfl (by decide) 2 (t' := (90, [some (vR 0)], [vR 0], W100)) (ps := []) rfl trivial ?_
  refine rch_new rfl (t' := (93, [some (vR 0)], [vR 32, vR 0], W101)) rfl ⟨by decide, by decide⟩ (by decide) ?_
  refine rch_run rfl (by decide) 2 (t' := (96, [some (vR 0)], [vI 20, vR 32, vR 32, vR 0], W101)) (ps := []) rfl trivial ?_
  refine rch_call (h' := 1) (k' := 7) (as := [vR 32, vI 20]) (t1 := (99, [some (vR 0)], [vR 32, vR 0], W101)) rfl rfl (con_X1_init_32 l E) (by decide) ⟨by decide, by decide⟩ ?_
  rintro rt w9 ⟨rfl, rfl⟩ _ _
  show Rch l E 2 61 _ _ _ _ (99, [some (vR 0)], [vR 32, vR 0], W111)
  refine rch_run rfl (by decide) 2 (t' := (103, [some (vR 0)], [vR 0], W112)) (ps := []) rfl trivial ?_
  refine rch_new rfl (t' := (106, [some (vR 0)], [vR 38, vR 0], W113)) rfl ⟨by decide, by decide⟩ (by decide) ?_
  refine rch_run rfl (by decide) 2 (t' := (109, [some (vR 0)], [vI 20, vR 38, vR 38, vR 0], W113)) (ps := []) rfl trivial ?_
  refine rch_call (h' := 1) (k' := 7) (as := [vR 38, vI 20]) (t1 := (112, [some (vR 0)], [vR 38, vR 0], W113)) rfl rfl (con_X1_init_38 l E) (by decide) ⟨by decide, by decide⟩ ?_
  rintro rt w9 ⟨rfl, rfl⟩ _ _
  show Rch l E 2 61 _ _ _ _ (112, [some (vR 0)], [vR 38, vR 0], W123)
  refine rch_run rfl (by decide) 2 (t' := (116, [some (vR 0)], [vR 0], W124)) (ps := []) rfl trivial ?_
  refine rch_new rfl (t' := (119, [some (vR 0)], [vR 44, vR 0], W125)) rfl ⟨by decide, by decide⟩ (by decide) ?_
  refine rch_run rfl (by decide) 1 (t' := (120, [some (vR 0)], [vR 44, vR 44, vR 0], W125)) (ps := []) rfl trivial ?_
  refine rch_call (h' := 1) (k' := 33) (as := [vR 44]) (t1 := (123, [some (vR 0)], [vR 44, vR 0], W125)) rfl rfl (con_X5_init_44 l E) (by decide) ⟨by decide, by decide⟩ ?_
  rintro rt w9 ⟨rfl, rfl⟩ _ _
  show Rch l E 2 61 _ _ _ _ (123, [some (vR 0)], [vR 44, vR 0], W133)
  refine rch_run rfl (by decide) 2 (t' := (127, [some (vR 0)], [vR 0], W134)) (ps := []) rfl trivial ?_
  refine rch_new rfl (t' := (130, [some (vR 0)], [vR 49, vR 0], W135)) rfl ⟨by decide, by decide⟩ (by decide) ?_
  refine rch_run rfl (by decide) 1 (t' := (131, [some (vR 0)], [vR 49, vR 49, vR 0], W135)) (ps := []) rfl trivial ?_
  refine rch_call (h' := 1) (k' := 19) (as := [vR 49]) (t1 := (134, [some (vR 0)], [vR 49, vR 0], W135)) rfl rfl (con_X3_init_49 l E) (by decide) ⟨by decide, by decide⟩ ?_
  rintro rt w9 ⟨rfl, rfl⟩ _ _
  show Rch l E 2 61 _ _ _ _ (134, [some (vR 0)], [vR 49, vR 0], W157)
  refine rch_run rfl (by decide) 2 (t' := (138, [some (vR 0)], [vR 0], W158)) (ps := []) rfl trivial ?_
  refine rch_new rfl (t' := (141, [some (vR 0)], [vR 61, vR 0], W159)) rfl ⟨by decide, by decide⟩ (by decide) ?_
  refine rch_run rfl (by decide) 1 (t' := (142, [some (vR 0)], [vR 61, vR 61, vR 0], W159)) (ps := []) rfl trivial ?_
  refine rch_call (h' := 1) (k' := 48) (as := [vR 61]) (t1 := (145, [some (vR 0)], [vR 61, vR 0], W159)) rfl rfl (con_X8_init_61 l E) (by decide) ⟨by decide, by decide⟩ ?_
  rintro rt w9 ⟨rfl, rfl⟩ _ _
  show Rch l E 2 61 _ _ _ _ (145, [some (vR 0)], [vR 61, vR 0], W167)
  refine rch_run rfl (by decide) 2 (t' := (149, [some (vR 0)], [vR 0], W168)) (ps := []) rfl trivial ?_
  refine rch_new rfl (t' := (152, [some (vR 0)], [vR 66, vR 0], W169)) rfl ⟨by decide, by decide⟩ (by decide) ?_
  refine rch_run rfl (by decide) 2 (t' := (155, [some (vR 0)], [vI 60, vR 66, vR 66, vR 0], W169)) (ps := []) rfl trivial ?_
  refine rch_call (h' := 1) (k' := 58) (as := [vR 66, vI 60]) (t1 := (158, [some (vR 0)], [vR 66, vR 0], W169)) rfl rfl (con_X10_init_66 l E) (by decide) ⟨by decide, by decide⟩ ?_
  rintro rt w9 ⟨rfl, rfl⟩ _ _
  show Rch l E 2 61 _ _ _ _ (158, [some (vR 0)], [vR 66, vR 0], W175)
  refine rch_run rfl (by decide) 2 (t' := (162, [some (vR 0)], [vR 0], W176)) (ps := []) rfl trivial ?_
  refine rch_new rfl (t' := (165, [some (vR 0)], [vR 70, vR 0], W177)) rfl ⟨by decide, by decide⟩ (by decide) ?_
  refine rch_run rfl (by decide) 2 (t' := (168, [some (vR 0)], [vI 60, vR 70, vR 70, vR 0], W177)) (ps := []) rfl trivial ?_
  refine rch_call (h' := 1) (k' := 58) (as := [vR 70, vI 60]) (t1 := (171, [some (vR 0)], [vR 70, vR 0], W177)) rfl rfl (con_X10_init_70 l E) (by decide) ⟨by decide, by decide⟩ ?_
  rintro rt w9 ⟨rfl, rfl⟩ _ _
  show Rch l E 2 61 _ _ _ _ (171, [some (vR 0)], [vR 70, vR 0], W183)
  refine rch_run rfl (by decide) 1 (t' := (174, [some (vR 0)], [], W184)) (ps := []) rfl trivial ?_
  exact rch_ret rfl (rt := none) rfl trivial ⟨by decide, by decide⟩ ⟨rfl, rfl⟩

set_option maxRecDepth 100000 in
theorem con_X12_init_74 (l : Launch) (E : AX) : Con l E 2 102 [vR 74] W185 54 5792 (fun rt w => rt = none ∧ w = W330) := by
  refine con_intro (by decide) (by decide) ?_
  show Rch l E 2 102 _ _ _ _ (0, [some (vR 74), none], [], W185)
  refine rch_run rfl (by decide) 4 (t' := (7, [some (vR 74), none], [vI 36, vR 74], W185)) (ps := []) rfl trivial ?_
  refine rch_new rfl (t' := (9, [some (vR 74), none], [vR 75, vR 74], W186)) rfl ⟨by decide, by decide⟩ (by decide) ?_
  refine rch_run rfl (by decide) 3 (t' := (15, [some (vR 74), none], [vI 6, vR 74], W187)) (ps := []) rfl trivial ?_
  refine rch_new rfl (t' := (17, [some (vR 74), none], [vR 76, vR 74], W188)) rfl ⟨by decide, by decide⟩ (by decide) ?_
  refine rch_run rfl (by decide) 3 (t' := (23, [some (vR 74), none], [vI 6, vR 74], W189)) (ps := []) rfl trivial ?_
  refine rch_new rfl (t' := (25, [some (vR 74), none], [vR 77, vR 74], W190)) rfl ⟨by decide, by decide⟩ (by decide) ?_
  refine rch_run rfl (by decide) 3 (t' := (31, [some (vR 74), none], [vI 10, vR 74], W191)) (ps := []) rfl trivial ?_
  refine rch_new rfl (t' := (33, [some (vR 74), none], [vR 78, vR 74], W192)) rfl ⟨by decide, by decide⟩ (by decide) ?_
  refine rch_run rfl (by decide) 3 (t' := (39, [some (vR 74), none], [vI 10, vR 74], W193)) (ps := []) rfl trivial ?_
  refine rch_new rfl (t' := (41, [some (vR 74), none], [vR 79, vR 74], W194)) rfl ⟨by decide, by decide⟩ (by decide) ?_
  refine rch_run rfl (by decide) 3 (t' := (47, [some (vR 74), none], [vI 10, vR 74], W195)) (ps := []) rfl trivial ?_
  refine rch_new rfl (t' := (49, [some (vR 74), none], [vR 80, vR 74], W196)) rfl ⟨by decide, by decide⟩ (by decide) ?_
  refine rch_run rfl (by decide) 3 (t' := (56, [some (vR 74), none], [vI 150, vR 74], W197)) (ps := []) rfl trivial ?_
  refine rch_new rfl (t' := (58, [some (vR 74), none], [vR 81, vR 74], W198)) rfl ⟨by decide, by decide⟩ (by decide) ?_
  refine rch_run rfl (by decide) 3 (t' := (65, [some (vR 74), none], [vI 150, vR 74], W199)) (ps := []) rfl trivial ?_
  refine rch_new rfl (t' := (67, [some (vR 74), none], [vR 82, vR 74], W200)) rfl ⟨by decide, by decide⟩ (by decide) ?_
  refine rch_run rfl (by decide) 3 (t' := (74, [some (vR 74), none], [vI 150, vR 74], W201)) (ps := []) rfl trivial ?_
  refine rch_new rfl (t' := (76, [some (vR 74), none], [vR 83, vR 74], W202)) rfl ⟨by decide, by decide⟩ (by decide) ?_
  refine rch_run rfl (by decide) 3 (t' := (83, [some (vR 74), none], [vI 150, vR 74], W203)) (ps := []) rfl trivial ?_
  refine rch_new rfl (t' := (85, [some (vR 74), none], [vR 84, vR 74], W204)) rfl ⟨by decide, by decide⟩ (by decide) ?_
  refine rch_run rfl (by decide) 3 (t' := (92, [some (vR 74), none], [vI 150, vR 74], W205)) (ps := []) rfl trivial ?_
  refine rch_new rfl (t' := (94, [some (vR 74), none], [vR 85, vR 74], W206)) rfl ⟨by decide, by decide⟩ (by decide) ?_
  refine rch_run rfl (by decide) 3 (t' := (101, [some (vR 74), none], [vI 150, vR 74], W207)) (ps := []) rfl trivial ?_
  refine rch_new rfl (t' := (103, [some (vR 74), none], [vR 86, vR 74], W208)) rfl ⟨by decide, by decide⟩ (by decide) ?_
  refine rch_run rfl (by decide) 3 (t' := (110, [some (vR 74), none], [vI 500, vR 74], W209)) (ps := []) rfl trivial ?_
  refine rch_new rfl (t' := (112, [some (vR 74), none], [vR 87, vR 74], W210)) rfl ⟨by decide, by decide⟩ (by decide) ?_
  refine rch_run rfl (by decide) 3 (t' := (119, [some (vR 74), none], [vI 500, vR 74], W211)) (ps := []) rfl trivial ?_
  refine rch_new rfl (t' := (121, [some (vR 74), none], [vR 88, vR 74], W212)) rfl ⟨by decide, by decide⟩ (by decide) ?_
  refine rch_run rfl (by decide) 3 (t' := (128, [some (vR 74), none], [vI 500, vR 74], W213)) (ps := []) rfl trivial ?_
  refine rch_new rfl (t' := (130, [some (vR 74), none], [vR 89, vR 74], W214)) rfl ⟨by decide, by decide⟩ (by decide) ?_
  refine rch_run rfl (by decide) 3 (t' := (136, [some (vR 74), none], [vI 11, vR 74], W215)) (ps := []) rfl trivial ?_
  refine rch_new rfl (t' := (138, [some (vR 74), none], [vR 90, vR 74], W216)) rfl ⟨by decide, by decide⟩ (by decide) ?_
  refine rch_run rfl (by decide) 3 (t' := (144, [some (vR 74), none], [vI 10, vR 74], W217)) (ps := []) rfl trivial ?_
  refine rch_new rfl (t' := (146, [some (vR 74), none], [vR 91, vR 74], W218)) rfl ⟨by decide, by decide⟩ (by decide) ?_
  refine rch_run rfl (by decide) 3 (t' := (153, [some (vR 74), none], [vI 500, vR 74], W219)) (ps := []) rfl trivial ?_
  refine rch_new rfl (t' := (155, [some (vR 74), none], [vR 92, vR 74], W220)) rfl ⟨by decide, by decide⟩ (by decide) ?_
  refine rch_run rfl (by decide) 3 (t' := (162, [some (vR 74), none], [vI 500, vR 74], W221)) (ps := []) rfl trivial ?_
  refine rch_new rfl (t' := (164, [some (vR 74), none], [vR 93, vR 74], W222)) rfl ⟨by decide, by decide⟩ (by decide) ?_
  refine rch_run rfl (by decide) 3 (t' := (171, [some (vR 74), none], [vI 500, vR 74], W223)) (ps := []) rfl trivial ?_
  refine rch_new rfl (t' := (173, [some (vR 74), none], [vR 94, vR 74], W224)) rfl ⟨by decide, by decide⟩ (by decide) ?_
  refine rch_run rfl (by decide) 3 (t' := (179, [some (vR 74), none], [vI 11, vR 74], W225)) (ps := []) rfl trivial ?_
  refine rch_new rfl (t' := (181, [some (vR 74), none], [vR 95, vR 74], W226)) rfl ⟨by decide, by decide⟩ (by decide) ?_
  refine rch_run rfl (by decide) 3 (t' := (187, [some (vR 74), none], [vI 10, vR 74], W227)) (ps := []) rfl trivial ?_
  refine rch_new rfl (t' := (189, [some (vR 74), none], [vR 96, vR 74], W228)) rfl ⟨by decide, by decide⟩ (by decide) ?_
  refine rch_run rfl (by decide) 3 (t' := (196, [some (vR 74), none], [vI 500, vR 74], W229)) (ps := []) rfl trivial ?_
  refine rch_new rfl (t' := (198, [some (vR 74), none], [vR 97, vR 74], W230)) rfl ⟨by decide, by decide⟩ (by decide) ?_
  refine rch_run rfl (by decide) 6 (t' := (210, [some (vR 74), none], [vI 300, vR 74], W232)) (ps := []) rfl trivial ?_
  refine rch_new rfl (t' := (212, [some (vR 74), none], [vR 98, vR 74], W233)) rfl ⟨by decide, by decide⟩ (by decide) ?_
  refine rch_run rfl (by decide) 3 (t' := (218, [some (vR 74), none], [vI 100, vR 74], W234)) (ps := []) rfl trivial ?_
  refine rch_new rfl (t' := (220, [some (vR 74), none], [vR 99, vR 74], W235)) rfl ⟨by decide, by decide⟩ (by decide) ?_
  refine rch_run rfl (by decide) 3 (t' := (226, [some (vR 74), none], [vI 20, vR 74], W236)) (ps := []) rfl trivial ?_
  refine rch_new rfl (t' := (228, [some (vR 74), none], [vR 100, vR 74], W237)) rfl ⟨by decide, by decide⟩ (by decide) ?_
  refine rch_run rfl (by decide) 3 (t' := (234, [some (vR 74), none], [vI 20, vR 74], W238)) (ps := []) rfl trivial ?_
  refine rch_new rfl (t' := (236, [some (vR 74), none], [vR 101, vR 74], W239)) rfl ⟨by decide, by decide⟩ (by decide) ?_
  refine rch_run rfl (by decide) 3 (t' := (242, [some (vR 74), none], [vI 20, vR 74], W240)) (ps := []) rfl trivial ?_
  refine rch_new rfl (t' := (244, [some (vR 74), none], [vR 102, vR 74], W241)) rfl ⟨by decide, by decide⟩ (by decide) ?_
  refine rch_run rfl (by decide) 3 (t' := (250, [some (vR 74), none], [vI 20, vR 74], W242)) (ps := []) rfl trivial ?_
  refine rch_new rfl (t' := (252, [some (vR 74), none], [vR 103, vR 74], W243)) rfl ⟨by decide, by decide⟩ (by decide) ?_
  refine rch_run rfl (by decide) 3 (t' := (258, [some (vR 74), none], [vI 20, vR 74], W244)) (ps := []) rfl trivial ?_
  refine rch_new rfl (t' := (260, [some (vR 74), none], [vR 104, vR 74], W245)) rfl ⟨by decide, by decide⟩ (by decide) ?_
  refine rch_run rfl (by decide) 3 (t' := (266, [some (vR 74), none], [vI 20, vR 74], W246)) (ps := []) rfl trivial ?_
  refine rch_new rfl (t' := (268, [some (vR 74), none], [vR 105, vR 74], W247)) rfl ⟨by decide, by decide⟩ (by decide) ?_
  refine rch_run rfl (by decide) 3 (t' := (274, [some (vR 74), none], [vI 20, vR 74], W248)) (ps := []) rfl trivial ?_
  refine rch_new rfl (t' := (276, [some (vR 74), none], [vR 106, vR 74], W249)) rfl ⟨by decide, by decide⟩ (by decide) ?_
  refine rch_run rfl (by decide) 3 (t' := (282, [some (vR 74), none], [vI 20, vR 74], W250)) (ps := []) rfl trivial ?_
  refine rch_new rfl (t' := (284, [some (vR 74), none], [vR 107, vR 74], W251)) rfl ⟨by decide, by decide⟩ (by decide) ?_
  refine rch_run rfl (by decide) 3 (t' := (290, [some (vR 74), none], [vI 20, vR 74], W252)) (ps := []) rfl trivial ?_
  refine rch_new rfl (t' := (292, [some (vR 74), none], [vR 108, vR 74], W253)) rfl ⟨by decide, by decide⟩ (by decide) ?_
  refine rch_run rfl (by decide) 3 (t' := (298, [some (vR 74), none], [vI 20, vR 74], W254)) (ps := []) rfl trivial ?_
  refine rch_new rfl (t' := (300, [some (vR 74), none], [vR 109, vR 74], W255)) rfl ⟨by decide, by decide⟩ (by decide) ?_
  refine rch_run rfl (by decide) 3 (t' := (306, [some (vR 74), none], [vI 10, vR 74], W256)) (ps := []) rfl trivial ?_
  refine rch_new rfl (t' := (308, [some (vR 74), none], [vR 110, vR 74], W257)) rfl ⟨by decide, by decide⟩ (by decide) ?_
  refine rch_run rfl (by decide) 3 (t' := (314, [some (vR 74), none], [vI 10, vR 74], W258)) (ps := []) rfl trivial ?_
  refine rch_new rfl (t' := (316, [some (vR 74), none], [vR 111, vR 74], W259)) rfl ⟨by decide, by decide⟩ (by decide) ?_
  refine rch_run rfl (by decide) 3 (t' := (322, [some (vR 74), none], [vI 10, vR 74], W260)) (ps := []) rfl trivial ?_
  refine rch_new rfl (t' := (324, [some (vR 74), none], [vR 112, vR 74], W261)) rfl ⟨by decide, by decide⟩ (by decide) ?_
  refine rch_run rfl (by decide) 3 (t' := (330, [some (vR 74), none], [vI 10, vR 74], W262)) (ps := []) rfl trivial ?_
  refine rch_new rfl (t' := (332, [some (vR 74), none], [vR 113, vR 74], W263)) rfl ⟨by decide, by decide⟩ (by decide) ?_
  refine rch_run rfl (by decide) 3 (t' := (338, [some (vR 74), none], [vI 11, vR 74], W264)) (ps := []) rfl trivial ?_
  refine rch_new rfl (t' := (340, [some (vR 74), none], [vR 114, vR 74], W265)) rfl ⟨by decide, by decide⟩ (by decide) ?_
  refine rch_run rfl (by decide) 3 (t' := (346, [some (vR 74), none], [vI 11, vR 74], W266)) (ps := []) rfl trivial ?_
  refine rch_new rfl (t' := (348, [some (vR 74), none], [vR 115, vR 74], W267)) rfl ⟨by decide, by decide⟩ (by decide) ?_
  refine rch_run rfl (by decide) 3 (t' := (354, [some (vR 74), none], [vI 100, vR 74], W268)) (ps := []) rfl trivial ?_
  refine rch_new rfl (t' := (356, [some (vR 74), none], [vR 116, vR 74], W269)) rfl ⟨by decide, by decide⟩ (by decide) ?_
  refine rch_run rfl (by decide) 3 (t' := (362, [some (vR 74), none], [vI 100, vR 74], W270)) (ps := []) rfl trivial ?_
  refine rch_new rfl (t' := (364, [some (vR 74), none], [vR 117, vR 74], W271)) rfl ⟨by decide, by decide⟩ (by decide) ?_
  refine rch_run rfl (by decide) 3 (t' := (370, [some (vR 74), none], [vI 10, vR 74], W272)) (ps := []) rfl trivial ?_
  refine rch_new rfl (t' := (372, [some (vR 74), none], [vR 118, vR 74], W273)) rfl ⟨by decide, by decide⟩ (by decide) ?_
  refine rch_run rfl (by decide) 3 (t' := (378, [some (vR 74), none], [vI 10, vR 74], W274)) (ps := []) rfl trivial ?_
  refine rch_new rfl (t' := (380, [some (vR 74), none], [vR 119, vR 74], W275)) rfl ⟨by decide, by decide⟩ (by decide) ?_
  refine rch_run rfl (by decide) 3 (t' := (386, [some (vR 74), none], [vI 10, vR 74], W276)) (ps := []) rfl trivial ?_
  refine rch_new rfl (t' := (388, [some (vR 74), none], [vR 120, vR 74], W277)) rfl ⟨by decide, by decide⟩ (by decide) ?_
  refine rch_run rfl (by decide) 3 (t' := (394, [some (vR 74), none], [vI 10, vR 74], W278)) (ps := []) rfl trivial ?_
  refine rch_new rfl (t' := (396, [some (vR 74), none], [vR 121, vR 74], W279)) rfl ⟨by decide, by decide⟩ (by decide) ?_
  refine rch_run rfl (by decide) 3 (t' := (402, [some (vR 74), none], [vI 10, vR 74], W280)) (ps := []) rfl trivial ?_
  refine rch_new rfl (t' := (404, [some (vR 74), none], [vR 122, vR 74], W281)) rfl ⟨by decide, by decide⟩ (by decide) ?_
  refine rch_run rfl (by decide) 3 (t' := (410, [some (vR 74), none], [vI 60, vR 74], W282)) (ps := []) rfl trivial ?_
  refine rch_new rfl (t' := (412, [some (vR 74), none], [vR 123, vR 74], W283)) rfl ⟨by decide, by decide⟩ (by decide) ?_
  refine rch_run rfl (by decide) 3 (t' := (418, [some (vR 74), none], [vI 60, vR 74], W284)) (ps := []) rfl trivial ?_
  refine rch_new rfl (t' := (420, [some (vR 74), none], [vR 124, vR 74], W285)) rfl ⟨by decide, by decide⟩ (by decide) ?_
  refine rch_run rfl (by decide) 3 (t' := (426, [some (vR 74), none], [vI 60, vR 74], W286)) (ps := []) rfl trivial ?_
  refine rch_new rfl (t' := (428, [some (vR 74), none], [vR 125, vR 74], W287)) rfl ⟨by decide, by decide⟩ (by decide) ?_
  refine rch_run rfl (by decide) 3 (t' := (434, [some (vR 74), none], [vI 60, vR 74], W288)) (ps := []) rfl trivial ?_
  refine rch_new rfl (t' := (436, [some (vR 74), none], [vR 126, vR 74], W289)) rfl ⟨by decide, by decide⟩ (by decide) ?_
  refine rch_run rfl (by decide) 3 (t' := (442, [some (vR 74), none], [vI 60, vR 74], W290)) (ps := []) rfl trivial ?_
  refine rch_new rfl (t' := (444, [some (vR 74), none], [vR 127, vR 74], W291)) rfl ⟨by decide, by decide⟩ (by decide) ?_
  refine rch_run rfl (by decide) 3 (t' := (450, [some (vR 74), none], [vI 60, vR 74], W292)) (ps := []) rfl trivial ?_
  refine rch_new rfl (t' := (452, [some (vR 74), none], [vR 128, vR 74], W293)) rfl ⟨by decide, by decide⟩ (by decide) ?_
  refine rch_run rfl (by decide) 5 (t' := (460, [some (vR 74), some (vI 0)], [vI 36, vI 0], W294)) (ps := []) rfl trivial ?_
  refine rch_br rfl (cd := (36 : Int) ≤ 0) (t1 := (476, [some (vR 74), some (vI 0)], [], W294)) (t2 := (463, [some (vR 74), some (vI 0)], [], W294)) rfl (fun c9 => absurd c9 (by decide)) (fun _ => ?_)
  refine rch_run rfl (by decide) 9 (t' := (460, [some (vR 74), some (vI 1)], [vI 36, vI 1], W295)) (ps := [0 ≤ 0 ∧ 0 < ((36 : Nat) : Int), i32 (0 + 1)]) rfl (by simp only [all_, i32]; decide) ?_
  refine rch_br rfl (cd := (36 : Int) ≤ 1) (t1 := (476, [some (vR 74), some (vI 1)], [], W295)) (t2 := (463, [some (vR 74), some (vI 1)], [], W295)) rfl (fun c9 => absurd c9 (by decide)) (fun _ => ?_)
  refine rch_run rfl (by decide) 9 (t' := (460, [some (vR 74), some (vI 2)], [vI 36, vI 2], W296)) (ps := [0 ≤ 1 ∧ 1 < ((36 : Nat) : Int), i32 (1 + 1)]) rfl (by simp only [all_, i32]; decide) ?_
  refine rch_br rfl (cd := (36 : Int) ≤ 2) (t1 := (476, [some (vR 74), some (vI 2)], [], W296)) (t2 := (463, [some (vR 74), some (vI 2)], [], W296)) rfl (fun c9 => absurd c9 (by decide)) (fun _ => ?_)
  refine rch_run rfl (by decide) 9 (t' := (460, [some (vR 74), some (vI 3)], [vI 36, vI 3], W297)) (ps := [0 ≤ 2 ∧ 2 < ((36 : Nat) : Int), i32 (2 + 1)]) rfl (by simp only [all_, i32]; decide) ?_
  refine rch_br rfl (cd := (36 : Int) ≤ 3) (t1 := (476, [some (vR 74), some (vI 3)], [], W297)) (t2 := (463, [some (vR 74), some (vI 3)], [], W297)) rfl (fun c9 => absurd c9 (by decide)) (fun _ => ?_)
  refine rch_run rfl (by decide) 9 (t' := (460, [some (vR 74), some (vI 4)], [vI 36, vI 4], W298)) (ps := [0 ≤ 3 ∧ 3 < ((36 : Nat) : Int), i32 (3 + 1)]) rfl (by simp only [all_, i32]; decide) ?_
  refine rch_br rfl (cd := (36 : Int) ≤ 4) (t1 := (476, [some (vR 74), some (vI 4)], [], W298)) (t2 := (463, [some (vR 74), some (vI 4)], [], W298)) rfl (fun c9 => absurd c9 (by decide)) (fun _ => ?_)
  refine rch_run rfl (by decide) 9 (t' := (460, [some (vR 74), some (vI 5)], [vI 36, vI 5], W299)) (ps := [0 ≤ 4 ∧ 4 < ((36 : Nat) : Int), i32 (4 + 1)]) rfl (by simp only [all_, i32]; decide) ?_
  refine rch_br rfl (cd := (36 : Int) ≤ 5) (t1 := (476, [some (vR 74), some (vI 5)], [], W299)) (t2 := (463, [some (vR 74), some (vI 5)], [], W299)) rfl (fun c9 => absurd c9 (by decide)) (fun _ => ?_)
  refine rch_run rfl (by decide) 9 (t' := (460, [some (vR 74), some (vI 6)], [vI 36, vI 6], W300)) (ps := [0 ≤ 5 ∧ 5 < ((36 : Nat) : Int), i32 (5 + 1)]) rfl (by simp only [all_, i32]; decide) ?_
  refine rch_br rfl (cd := (36 : Int) ≤ 6) (t1 := (476, [some (vR 74), some (vI 6)], [], W300)) (t2 := (463, [some (vR 74), some (vI 6)], [], W300)) rfl (fun c9 => absurd c9 (by decide)) (fun _ => ?_)
  refine rch_run rfl (by decide) 9 (t' := (460, [some (vR 74), some (vI 7)], [vI 36, vI 7], W301)) (ps := [0 ≤ 6 ∧ 6 < ((36 : Nat) : Int), i32 (6 + 1)]) rfl (by simp only [all_, i32]; decide) ?_
  refine rch_br rfl (cd := (36 : Int) ≤ 7) (t1 := (476, [some (vR 74), some (vI 7)], [], W301)) (t2 := (463, [some (vR 74), some (vI 7)], [], W301)) rfl (fun c9 => absurd c9 (by decide)) (fun _ => ?_)
  refine rch_run rfl (by decide) 9 (t' := (460, [some (vR 74), some (vI 8)], [vI 36, vI 8], W302)) (ps := [0 ≤ 7 ∧ 7 < ((36 : Nat) : Int), i32 (7 + 1)]) rfl (by simp only [all_, i32]; decide) ?_
  refine rch_br rfl (cd := (36 : Int) ≤ 8) (t1 := (476, [some (vR 74), some (vI 8)], [], W302)) (t2 := (463, [some (vR 74), some (vI 8)], [], W302)) rfl (fun c9 => absurd c9 (by decide)) (fun _ => ?_)
  refine rch_run rfl (by decide) 9 (t' := (460, [some (vR 74), some (vI 9)], [vI 36, vI 9], W303)) (ps := [0 ≤ 8 ∧ 8 < ((36 : Nat) : Int), i32 (8 + 1)]) rfl (by simp only [all_, i32]; decide) ?_
  refine rch_br rfl (cd := (36 : Int) ≤ 9) (t1 := (476, [some (vR 74), some (vI 9)], [], W303)) (t2 := (463, [some (vR 74), some (vI 9)], [], W303)) rfl (fun c9 => absurd c9 (by decide)) (fun _ => ?_)
  refine rch_run rfl (by decide) 9 (t' := (460, [some (vR 74), some (vI 10)], [vI 36, vI 10], W304)) (ps := [0 ≤ 9 ∧ 9 < ((36 : Nat) : Int), i32 (9 + 1)]) rfl (by simp only [all_, i32]; decide) ?_
  refine rch_br rfl (cd := (36 : Int) ≤ 10) (t1 := (476, [some (vR 74), some (vI 10)], [], W304)) (t2 := (463, [some (vR 74), some (vI 10)], [], W304)) rfl (fun c9 => absurd c9 (by decide)) (fun _ => ?_)
  refine rch_run rfl (by decide) 9 (t' := (460, [some (vR 74), some (vI 11)], [vI 36, vI 11], W305)) (ps := [0 ≤ 10 ∧ 10 < ((36 : Nat) : Int), i32 (10 + 1)]) rfl (by simp only [all_, i32]; decide) ?_
  refine rch_br rfl (cd := (36 : Int) ≤ 11) (t1 := (476, [some (vR 74), some (vI 11)], [], W305)) (t2 := (463, [some (vR 74), some (vI 11)], [], W305)) rfl (fun c9 => absurd c9 (by decide)) (fun _ => ?_)
  refine rch_run rfl (by decide) 9 (t' := (460, [some (vR 74), some (vI 12)], [vI 36, vI 12], W306)) (ps := [0 ≤ 11 ∧ 11 < ((36 : Nat) : Int), i32 (11 + 1)]) rfl (by simp only [all_, i32]; decide) ?_
  refine rch_br rfl (cd := (36 : Int) ≤ 12) (t1 := (476, [some (vR 74), some (vI 12)], [], W306)) (t2 := (463, [some (vR 74), some (vI 12)], [], W306)) rfl (fun c9 => absurd c9 (by decide)) (fun _ => ?_)
  refine rch_run rfl (by decide) 9 (t' := (460, [some (vR 74), some (vI 13)], [vI 36, vI 13], W307)) (ps := [0 ≤ 12 ∧ 12 < ((36 : Nat) : Int), i32 (12 + 1)]) rfl (by simp only [all_, i32]; decide) ?_
  refine rch_br rfl (cd := (36 : Int) ≤ 13) (t1 := (476, [some (vR 74), some (vI 13)], [], W307)) (t2 := (463, [some (vR 74), some (vI 13)], [], W307)) rfl (fun c9 => absurd c9 (by decide)) (fun _ => ?_)
  refine rch_run rfl (by decide) 9 (t' := (460, [some (vR 74), some (vI 14)], [vI 36, vI 14], W308)) (ps := [0 ≤ 13 ∧ 13 < ((36 : Nat) : Int), i32 (13 + 1)]) rfl (by simp only [all_, i32]; decide) ?_
  refine rch_br rfl (cd := (36 : Int) ≤ 14) (t1 := (476, [some (vR 74), some (vI 14)], [], W308)) (t2 := (463, [some (vR 74), some (vI 14)], [], W308)) rfl (fun c9 => absurd c9 (by decide)) (fun _ => ?_)
  refine rch_run rfl (by decide) 9 (t' := (460, [some (vR 74), some (vI 15)], [vI 36, vI 15], W309)) (ps := [0 ≤ 14 ∧ 14 < ((36 : Nat) : Int), i32 (14 + 1)]) rfl (by simp only [all_, i32]; decide) ?_
  refine rch_br rfl (cd := (36 : Int) ≤ 15) (t1 := (476, [some (vR 74), some (vI 15)], [], W309)) (t2 := (463, [some (vR 74), some (vI 15)], [], W309)) rfl (fun c9 => absurd c9 (by decide)) (fun _ => ?_)
  refine rch_run rfl (by decide) 9 (t' := (460, [some (vR 74), some (vI 16)], [vI 36, vI 16], W310)) (ps := [0 ≤ 15 ∧ 15 < ((36 : Nat) : Int), i32 (15 + 1)]) rfl (by simp only [all_, i32]; decide) ?_
  refine rch_br rfl (cd := (36 : Int) ≤ 16) (t1 := (476, [some (vR 74), some (vI 16)], [], W310)) (t2 := (463, [some (vR 74), some (vI 16)], [], W310)) rfl (fun c9 => absurd c9 (by decide)) (fun _ => ?_)
  refine rch_run rfl (by decide) 9 (t' := (460, [some (vR 74), some (vI 17)], [vI 36, vI 17], W311)) (ps := [0 ≤ 16 ∧ 16 < ((36 : Nat) : Int), i32 (16 + 1)]) rfl (by simp only [all_, i32]; decide) ?_
  refine rch_br rfl (cd := (36 : Int) ≤ 17) (t1 := (476, [some (vR 74), some (vI 17)], [], W311)) (t2 := (463, [some (vR 74), some (vI 17)], [], W311)) rfl (fun c9 => absurd c9 (by decide)) (fun _ => ?_)
  refine rch_run rfl (by decide) 9 (t' := (460, [some (vR 74), some (vI 18)], [vI 36, vI 18], W312)) (ps := [0 ≤ 17 ∧ 17 < ((36 : Nat) : Int), i32 (17 + 1)]) rfl (by simp only [all_, i32]; decide) ?_
  refine rch_br rfl (cd := (36 : Int) ≤ 18) (t1 := (476, [some (vR 74), some (vI 18)], [], W312)) (t2 := (463, [some (vR 74), some (vI 18)], [], W312)) rfl (fun c9 => absurd c9 (by decide)) (fun _ => ?_)
  refine rch_run rfl (by decide) 9 (t' := (460, [some (vR 74), some (vI 19)], [vI 36, vI 19], W313)) (ps := [0 ≤ 18 ∧ 18 < ((36 : Nat) : Int), i32 (18 + 1)]) rfl (by simp only [all_, i32]; decide) ?_
  refine rch_br rfl (cd := (36 : Int) ≤ 19) (t1 := (476, [some (vR 74), some (vI 19)], [], W313)) (t2 := (463, [some (vR 74), some (vI 19)], [], W313)) rfl (fun c9 => absurd c9 (by decide)) (fun _ => ?_)
  refine rch_run rfl (by decide) 9 (t' := (460, [some (vR 74), some (vI 20)], [vI 36, vI 20], W314)) (ps := [0 ≤ 19 ∧ 19 < ((36 : Nat) : Int), i32 (19 + 1)]) rfl (by simp only [all_, i32]; decide) ?_
  refine rch_br rfl (cd := (36 : Int) ≤ 20) (t1 := (476, [some (vR 74), some (vI 20)], [], W314)) (t2 := (463, [some (vR 74), some (vI 20)], [], W314)) rfl (fun c9 => absurd c9 (by decide)) (fun _ => ?_)
  refine rch_run rfl (by decide) 9 (t' := (460, [some (vR 74), some (vI 21)], [vI 36, vI 21], W315)) (ps := [0 ≤ 20 ∧ 20 < ((36 : Nat) : Int), i32 (20 + 1)]) rfl (by simp only [all_, i32]; decide) ?_
  refine rch_br rfl (cd := (36 : Int) ≤ 21) (t1 := (476, [some (vR 74), some (vI 21)], [], W315)) (t2 := (463, [some (vR 74), some (vI 21)], [], W315)) rfl (fun c9 => absurd c9 (by decide)) (fun _ => ?_)
  refine rch_run rfl (by decide) 9 (t' := (460, [some (vR 74), some (vI 22)], [vI 36, vI 22], W316)) (ps := [0 ≤ 21 ∧ 21 < ((36 : Nat) : Int), i32 (21 + 1)]) rfl (by simp only [all_, i32]; decide) ?_
  refine rch_br rfl (cd := (36 : Int) ≤ 22) (t1 := (476, [some (vR 74), some (vI 22)], [], W316)) (t2 := (463, [some (vR 74), some (vI 22)], [], W316)) rfl (fun c9 => absurd c9 (by decide)) (fun _ => ?_)
  refine rch_run rfl (by decide) 9 (t' := (460, [some (vR 74), some (vI 23)], [vI 36, vI 23], W317)) (ps := [0 ≤ 22 ∧ 22 < ((36 : Nat) : Int), i32 (22 + 1)]) rfl (by simp only [all_, i32]; decide) ?_
  refine rch_br rfl (cd := (36 : Int) ≤ 23) (t1 := (476, [some (vR 74), some (vI 23)], [], W317)) (t2 := (463, [some (vR 74), some (vI 23)], [], W317)) rfl (fun c9 => absurd c9 (by decide)) (fun _ => ?_)
  refine rch_run rfl (by decide) 9 (t' := (460, [some (vR 74), some (vI 24)], [vI 36, vI 24], W318)) (ps := [0 ≤ 23 ∧ 23 < ((36 : Nat) : Int), i32 (23 + 1)]) rfl (by simp only [all_, i32]; decide) ?_
  refine rch_br rfl (cd := (36 : Int) ≤ 24) (t1 := (476, [some (vR 74), some (vI 24)], [], W318)) (t2 := (463, [some (vR 74), some (vI 24)], [], W318)) rfl (fun c9 => absurd c9 (by decide)) (fun _ => ?_)
  refine rch_run rfl (by decide) 9 (t' := (460, [some (vR 74), some (vI 25)], [vI 36, vI 25], W319)) (ps := [0 ≤ 24 ∧ 24 < ((36 : Nat) : Int), i32 (24 + 1)]) rfl (by simp only [all_, i32]; decide) ?_
  refine rch_br rfl (cd := (36 : Int) ≤ 25) (t1 := (476, [some (vR 74), some (vI 25)], [], W319)) (t2 := (463, [some (vR 74), some (vI 25)], [], W319)) rfl (fun c9 => absurd c9 (by decide)) (fun _ => ?_)
  refine rch_run rfl (by decide) 9 (t' := (460, [some (vR 74), some (vI 26)], [vI 36, vI 26], W320)) (ps := [0 ≤ 25 ∧ 25 < ((36 : Nat) : Int), i32 (25 + 1)]) rfl (by simp only [all_, i32]; decide) ?_
  refine rch_br rfl (cd := (36 : Int) ≤ 26) (t1 := (476, [some (vR 74), some (vI 26)], [], W320)) (t2 := (463, [some (vR 74), some (vI 26)], [], W320)) rfl (fun c9 => absurd c9 (by decide)) (fun _ => ?_)
  refine rch_run rfl (by decide) 9 (t' := (460, [some (vR 74), some (vI 27)], [vI 36, vI 27], W321)) (ps := [0 ≤ 26 ∧ 26 < ((36 : Nat) : Int), i32 (26 + 1)]) rfl (by simp only [all_, i32]; decide) ?_
  refine rch_br rfl (cd := (36 : Int) ≤ 27) (t1 := (476, [some (vR 74), some (vI 27)], [], W321)) (t2 := (463, [some (vR 74), some (vI 27)], [], W321)) rfl (fun c9 => absurd c9 (by decide)) (fun _ => ?_)
  refine rch_run rfl (by decide) 9 (t' := (460, [some (vR 74), some (vI 28)], [vI 36, vI 28], W322)) (ps := [0 ≤ 27 ∧ 27 < ((36 : Nat) : Int), i32 (27 + 1)]) rfl (by simp only [all_, i32]; decide) ?_
  refine rch_br rfl (cd := (36 : Int) ≤ 28) (t1 := (476, [some (vR 74), some (vI 28)], [], W322)) (t2 := (463, [some (vR 74), some (vI 28)], [], W322)) rfl (fun c9 => absurd c9 (by decide)) (fun _ => ?_)
  refine rch_run rfl (by decide) 9 (t' := (460, [some (vR 74), some (vI 29)], [vI 36, vI 29], W323)) (ps := [0 ≤ 28 ∧ 28 < ((36 : Nat) : Int), i32 (28 + 1)]) rfl (by simp only [all_, i32]; decide) ?_
  refine rch_br rfl (cd := (36 : Int) ≤ 29) (t1 := (476, [some (vR 74), some (vI 29)], [], W323)) (t2 := (463, [some (vR 74), some (vI 29)], [], W323)) rfl (fun c9 => absurd c9 (by decide)) (fun _ => ?_)
  refine rch_run rfl (by decide) 9 (t' := (460, [some (vR 74), some (vI 30)], [vI 36, vI 30], W324)) (ps := [0 ≤ 29 ∧ 29 < ((36 : Nat) : Int), i32 (29 + 1)]) rfl (by simp only [all_, i32]; decide) ?_
  refine rch_br rfl (cd := (36 : Int) ≤ 30) (t1 := (476, [some (vR 74), some (vI 30)], [], W324)) (t2 := (463, [some (vR 74), some (vI 30)], [], W324)) rfl (fun c9 => absurd c9 (by decide)) (fun _ => ?_)
  refine rch_run rfl (by decide) 9 (t' := (460, [some (vR 74), some (vI 31)], [vI 36, vI 31], W325)) (ps := [0 ≤ 30 ∧ 30 < ((36 : Nat) : Int), i32 (30 + 1)]) rfl (by simp only [all_, i32]; decide) ?_
  refine rch_br rfl (cd := (36 : Int) ≤ 31) (t1 := (476, [some (vR 74), some (vI 31)], [], W325)) (t2 := (463, [some (vR 74), some (vI 31)], [], W325)) rfl (fun c9 => absurd c9 (by decide)) (fun _ => ?_)
  refine rch_run rfl (by decide) 9 (t' := (460, [some (vR 74), some (vI 32)], [vI 36, vI 32], W326)) (ps := [0 ≤ 31 ∧ 31 < ((36 : Nat) : Int), i32 (31 + 1)]) rfl (by simp only [all_, i32]; decide) ?_
  refine rch_br rfl (cd := (36 : Int) ≤ 32) (t1 := (476, [some (vR 74), some (vI 32)], [], W326)) (t2 := (463, [some (vR 74), some (vI 32)], [], W326)) rfl (fun c9 => absurd c9 (by decide)) (fun _ => ?_)
  refine rch_run rfl (by decide) 9 (t' := (460, [some (vR 74), some (vI 33)], [vI 36, vI 33], W327)) (ps := [0 ≤ 32 ∧ 32 < ((36 : Nat) : Int), i32 (32 + 1)]) rfl (by simp only [all_, i32]; decide) ?_
  refine rch_br rfl (cd := (36 : Int) ≤ 33) (t1 := (476, [some (vR 74), some (vI 33)], [], W327)) (t2 := (463, [some (vR 74), some (vI 33)], [], W327)) rfl (fun c9 => absurd c9 (by decide)) (fun _ => ?_)
  refine rch_run rfl (by decide) 9 (t' := (460, [some (vR 74), some (vI 34)], [vI 36, vI 34], W328)) (ps := [0 ≤ 33 ∧ 33 < ((36 : Nat) : Int), i32 (33 + 1)]) rfl (by simp only [all_, i32]; decide) ?_
  refine rch_br rfl (cd := (36 : Int) ≤ 34) (t1 := (476, [some (vR 74), some (vI 34)], [], W328)) (t2 := (463, [some (vR 74), some (vI 34)], [], W328)) rfl (fun c9 => absurd c9 (by decide)) (fun _ => ?_)
  refine rch_run rfl (by decide) 9 (t' := (460, [some (vR 74), some (vI 35)], [vI 36, vI 35], W329)) (ps := [0 ≤ 34 ∧ 34 < ((36 : Nat) : Int), i32 (34 + 1)]) rfl (by simp only [all_, i32]; decide) ?_
  refine rch_br rfl (cd := (36 : Int) ≤ 35) (t1 := (476, [some (vR 74), some (vI 35)], [], W329)) (t2 := (463, [some (vR 74), some (vI 35)], [], W329)) rfl (fun c9 => absurd c9 (by decide)) (fun _ => ?_)
  refine rch_run rfl (by decide) 9 (t' := (460, [some (vR 74), some (vI 36)], [vI 36, vI 36], W330)) (ps := [0 ≤ 35 ∧ 35 < ((36 : Nat) : Int), i32 (35 + 1)]) rfl (by simp only [all_, i32]; decide) ?_
  refine rch_br rfl (cd := (36 : Int) ≤ 36) (t1 := (476, [some (vR 74), some (vI 36)], [], W330)) (t2 := (463, [some (vR 74), some (vI 36)], [], W330)) rfl (fun _ => ?_) (fun c9 => absurd (by decide) c9)
  exact rch_ret rfl (rt := none) rfl trivial ⟨by decide, by decide⟩ ⟨rfl, rfl⟩
