def pp0 : List EN := p0_0
theorem sq0_0 : seek pp0 0 = p0_0 := sk0_0
theorem sq0_18 : seek pp0 18 = p0_18 := sk0_18
set_option maxRecDepth 100000 in
theorem sq0_184 : seek pp0 184 = p0_184 := sk0_184
set_option maxRecDepth 100000 in
theorem sq0_217 : seek pp0 217 = p0_217 := sk0_217
set_option maxRecDepth 100000 in
theorem sq0_260 : seek pp0 260 = p0_260 := sk0_260
set_option maxRecDepth 100000 in
theorem sq0_283 : seek pp0 283 = p0_283 := sk0_283
set_option maxRecDepth 100000 in
theorem sq0_316 : seek pp0 316 = p0_316 := sk0_316
set_option maxRecDepth 100000 in
theorem sq0_349 : seek pp0 349 = p0_349 := sk0_349
set_option maxRecDepth 100000 in
theorem sq0_372 : seek pp0 372 = p0_372 := sk0_372
set_option maxRecDepth 100000 in
theorem sq0_395 : seek pp0 395 = p0_395 := sk0_395
set_option maxRecDepth 100000 in
theorem sq0_428 : seek pp0 428 = p0_428 := sk0_428
set_option maxRecDepth 100000 in
theorem sq0_471 : seek pp0 471 = p0_471 := sk0_471
set_option maxRecDepth 100000 in
theorem sq0_504 : seek pp0 504 = p0_504 := sk0_504
set_option maxRecDepth 100000 in
theorem sq0_527 : seek pp0 527 = p0_527 := sk0_527
set_option maxRecDepth 100000 in
theorem sq0_528 : seek pp0 528 = p0_528 := sk0_528
set_option maxRecDepth 100000 in
theorem sq0_554 : seek pp0 554 = p0_554 := sk0_554
set_option maxRecDepth 100000 in
theorem sq0_555 : seek pp0 555 = p0_555 := sk0_555
set_option maxRecDepth 100000 in
theorem sq0_563 : seek pp0 563 = p0_563 := sk0_563
set_option maxRecDepth 100000 in
theorem sq0_596 : seek pp0 596 = p0_596 := sk0_596
set_option maxRecDepth 100000 in
theorem sq0_619 : seek pp0 619 = p0_619 := sk0_619
set_option maxRecDepth 100000 in
theorem sq0_632 : seek pp0 632 = p0_632 := sk0_632
set_option maxRecDepth 100000 in
theorem sq0_650 : seek pp0 650 = p0_650 := sk0_650
set_option maxRecDepth 100000 in
theorem sq0_651 : seek pp0 651 = p0_651 := sk0_651
set_option maxRecDepth 100000 in
theorem sq0_672 : seek pp0 672 = p0_672 := sk0_672
set_option maxRecDepth 100000 in
theorem sq0_673 : seek pp0 673 = p0_673 := sk0_673
set_option maxRecDepth 100000 in
theorem sq0_681 : seek pp0 681 = p0_681 := sk0_681
set_option maxRecDepth 100000 in
theorem sq0_724 : seek pp0 724 = p0_724 := sk0_724
set_option maxRecDepth 100000 in
theorem sq0_737 : seek pp0 737 = p0_737 := sk0_737
set_option maxRecDepth 100000 in
theorem sq0_770 : seek pp0 770 = p0_770 := sk0_770
set_option maxRecDepth 100000 in
theorem sq0_793 : seek pp0 793 = p0_793 := sk0_793
set_option maxRecDepth 100000 in
theorem sq0_816 : seek pp0 816 = p0_816 := sk0_816
set_option maxRecDepth 100000 in
theorem sq0_829 : seek pp0 829 = p0_829 := sk0_829
set_option maxRecDepth 100000 in
theorem sq0_830 : seek pp0 830 = p0_830 := sk0_830
set_option maxRecDepth 100000 in
theorem sq0_846 : seek pp0 846 = p0_846 := sk0_846
set_option maxRecDepth 100000 in
theorem sq0_847 : seek pp0 847 = p0_847 := sk0_847
set_option maxRecDepth 100000 in
theorem sq0_855 : seek pp0 855 = p0_855 := sk0_855
set_option maxRecDepth 100000 in
theorem sq0_868 : seek pp0 868 = p0_868 := sk0_868
set_option maxRecDepth 100000 in
theorem sq0_901 : seek pp0 901 = p0_901 := sk0_901
set_option maxRecDepth 100000 in
theorem sq0_924 : seek pp0 924 = p0_924 := sk0_924
set_option maxRecDepth 100000 in
theorem sq0_957 : seek pp0 957 = p0_957 := sk0_957
set_option maxRecDepth 100000 in
theorem sq0_990 : seek pp0 990 = p0_990 := sk0_990
set_option maxRecDepth 100000 in
theorem sq0_1013 : seek pp0 1013 = p0_1013 := sk0_1013
set_option maxRecDepth 100000 in
theorem sq0_1046 : seek pp0 1046 = p0_1046 := sk0_1046
set_option maxRecDepth 100000 in
theorem sq0_1089 : seek pp0 1089 = p0_1089 := sk0_1089
set_option maxRecDepth 100000 in
theorem sq0_1132 : seek pp0 1132 = p0_1132 := sk0_1132
set_option maxRecDepth 100000 in
theorem sq0_1195 : seek pp0 1195 = p0_1195 := sk0_1195
set_option maxRecDepth 100000 in
theorem sq0_1228 : seek pp0 1228 = p0_1228 := sk0_1228
set_option maxRecDepth 100000 in
theorem sq0_1241 : seek pp0 1241 = p0_1241 := sk0_1241
set_option maxRecDepth 100000 in
theorem sq0_1264 : seek pp0 1264 = p0_1264 := sk0_1264
set_option maxRecDepth 100000 in
theorem sq0_1270 : seek pp0 1270 = p0_1270 := sk0_1270
def pp1 : List EN := p1_0
theorem sq1_0 : seek pp1 0 = p1_0 := sk1_0
def pp2 : List EN := p2_0
theorem sq2_0 : seek pp2 0 = p2_0 := sk2_0
theorem sq2_14 : seek pp2 14 = p2_14 := sk2_14
theorem sq2_21 : seek pp2 21 = p2_21 := sk2_21
def pp3 : List EN := p3_0
theorem sq3_0 : seek pp3 0 = p3_0 := sk3_0
theorem sq3_26 : seek pp3 26 = p3_26 := sk3_26
theorem sq3_33 : seek pp3 33 = p3_33 := sk3_33
theorem sq3_51 : seek pp3 51 = p3_51 := sk3_51
theorem sq3_76 : seek pp3 76 = p3_76 := sk3_76
def pp4 : List EN := p4_0
theorem sq4_0 : seek pp4 0 = p4_0 := sk4_0
theorem sq4_18 : seek pp4 18 = p4_18 := sk4_18
theorem sq4_40 : seek pp4 40 = p4_40 := sk4_40
def pp5 : List EN := p5_0
theorem sq5_0 : seek pp5 0 = p5_0 := sk5_0
theorem sq5_18 : seek pp5 18 = p5_18 := sk5_18
theorem sq5_25 : seek pp5 25 = p5_25 := sk5_25
theorem sq5_45 : seek pp5 45 = p5_45 := sk5_45
theorem sq5_68 : seek pp5 68 = p5_68 := sk5_68
def pp6 : List EN := p6_0
theorem sq6_0 : seek pp6 0 = p6_0 := sk6_0
theorem sq6_18 : seek pp6 18 = p6_18 := sk6_18
theorem sq6_48 : seek pp6 48 = p6_48 := sk6_48
theorem sq6_58 : seek pp6 58 = p6_58 := sk6_58
theorem sq6_68 : seek pp6 68 = p6_68 := sk6_68
theorem sq6_78 : seek pp6 78 = p6_78 := sk6_78
theorem sq6_87 : seek pp6 87 = p6_87 := sk6_87
def pp7 : List EN := p7_0
theorem sq7_0 : seek pp7 0 = p7_0 := sk7_0
theorem sq7_18 : seek pp7 18 = p7_18 := sk7_18
theorem sq7_38 : seek pp7 38 = p7_38 := sk7_38
theorem sq7_60 : seek pp7 60 = p7_60 := sk7_60
def pp8 : List EN := p8_0
theorem sq8_0 : seek pp8 0 = p8_0 := sk8_0
theorem sq8_18 : seek pp8 18 = p8_18 := sk8_18
theorem sq8_38 : seek pp8 38 = p8_38 := sk8_38
theorem sq8_58 : seek pp8 58 = p8_58 := sk8_58
def pp9 : List EN := p9_0
theorem sq9_0 : seek pp9 0 = p9_0 := sk9_0
theorem sq9_18 : seek pp9 18 = p9_18 := sk9_18
theorem sq9_25 : seek pp9 25 = p9_25 := sk9_25
def pp10 : List EN := p10_0
theorem sq10_0 : seek pp10 0 = p10_0 := sk10_0
theorem sq10_18 : seek pp10 18 = p10_18 := sk10_18
theorem sq10_25 : seek pp10 25 = p10_25 := sk10_25
theorem sq10_53 : seek pp10 53 = p10_53 := sk10_53
theorem sq10_60 : seek pp10 60 = p10_60 := sk10_60
def pp11 : List EN := p11_0
theorem sq11_0 : seek pp11 0 = p11_0 := sk11_0
theorem sq11_18 : seek pp11 18 = p11_18 := sk11_18
theorem sq11_25 : seek pp11 25 = p11_25 := sk11_25
theorem sq11_52 : seek pp11 52 = p11_52 := sk11_52
theorem sq11_53 : seek pp11 53 = p11_53 := sk11_53
def pp12 : List EN := p12_0
theorem sq12_0 : seek pp12 0 = p12_0 := sk12_0
theorem sq12_18 : seek pp12 18 = p12_18 := sk12_18
theorem sq12_25 : seek pp12 25 = p12_25 := sk12_25
theorem sq12_52 : seek pp12 52 = p12_52 := sk12_52
theorem sq12_59 : seek pp12 59 = p12_59 := sk12_59
def pp13 : List EN := p13_0
theorem sq13_0 : seek pp13 0 = p13_0 := sk13_0
theorem sq13_22 : seek pp13 22 = p13_22 := sk13_22
theorem sq13_29 : seek pp13 29 = p13_29 := sk13_29
theorem sq13_34 : seek pp13 34 = p13_34 := sk13_34
theorem sq13_72 : seek pp13 72 = p13_72 := sk13_72
theorem sq13_78 : seek pp13 78 = p13_78 := sk13_78
def pp14 : List EN := p14_0
theorem sq14_0 : seek pp14 0 = p14_0 := sk14_0
theorem sq14_18 : seek pp14 18 = p14_18 := sk14_18
def pp15 : List EN := p15_0
theorem sq15_0 : seek pp15 0 = p15_0 := sk15_0
def pp16 : List EN := p16_0
theorem sq16_0 : seek pp16 0 = p16_0 := sk16_0
theorem sq16_26 : seek pp16 26 = p16_26 := sk16_26
theorem sq16_33 : seek pp16 33 = p16_33 := sk16_33
theorem sq16_49 : seek pp16 49 = p16_49 := sk16_49
theorem sq16_58 : seek pp16 58 = p16_58 := sk16_58
def pp17 : List EN := p17_0
theorem sq17_0 : seek pp17 0 = p17_0 := sk17_0
theorem sq17_25 : seek pp17 25 = p17_25 := sk17_25
theorem sq17_32 : seek pp17 32 = p17_32 := sk17_32
theorem sq17_50 : seek pp17 50 = p17_50 := sk17_50
theorem sq17_69 : seek pp17 69 = p17_69 := sk17_69
def pp18 : List EN := p18_0
theorem sq18_0 : seek pp18 0 = p18_0 := sk18_0
theorem sq18_17 : seek pp18 17 = p18_17 := sk18_17
def pp19 : List EN := p19_0
theorem sq19_0 : seek pp19 0 = p19_0 := sk19_0
theorem sq19_18 : seek pp19 18 = p19_18 := sk19_18
theorem sq19_25 : seek pp19 25 = p19_25 := sk19_25
def pp20 : List EN := p20_0
theorem sq20_0 : seek pp20 0 = p20_0 := sk20_0
theorem sq20_18 : seek pp20 18 = p20_18 := sk20_18
def pp21 : List EN := p21_0
theorem sq21_0 : seek pp21 0 = p21_0 := sk21_0
theorem sq21_14 : seek pp21 14 = p21_14 := sk21_14
def pp22 : List EN := p22_0
theorem sq22_0 : seek pp22 0 = p22_0 := sk22_0
theorem sq22_36 : seek pp22 36 = p22_36 := sk22_36
theorem sq22_43 : seek pp22 43 = p22_43 := sk22_43
def pp23 : List EN := p23_0
theorem sq23_0 : seek pp23 0 = p23_0 := sk23_0
def pp24 : List EN := p24_0
theorem sq24_0 : seek pp24 0 = p24_0 := sk24_0
theorem sq24_22 : seek pp24 22 = p24_22 := sk24_22
theorem sq24_29 : seek pp24 29 = p24_29 := sk24_29
theorem sq24_56 : seek pp24 56 = p24_56 := sk24_56
theorem sq24_57 : seek pp24 57 = p24_57 := sk24_57
def pp25 : List EN := p25_0
theorem sq25_0 : seek pp25 0 = p25_0 := sk25_0
theorem sq25_20 : seek pp25 20 = p25_20 := sk25_20
def pp26 : List EN := p26_0
theorem sq26_0 : seek pp26 0 = p26_0 := sk26_0
theorem sq26_22 : seek pp26 22 = p26_22 := sk26_22
theorem sq26_29 : seek pp26 29 = p26_29 := sk26_29
theorem sq26_62 : seek pp26 62 = p26_62 := sk26_62
theorem sq26_71 : seek pp26 71 = p26_71 := sk26_71
def pp27 : List EN := p27_0
theorem sq27_0 : seek pp27 0 = p27_0 := sk27_0
theorem sq27_22 : seek pp27 22 = p27_22 := sk27_22
theorem sq27_29 : seek pp27 29 = p27_29 := sk27_29
theorem sq27_67 : seek pp27 67 = p27_67 := sk27_67
theorem sq27_68 : seek pp27 68 = p27_68 := sk27_68
def pp28 : List EN := p28_0
theorem sq28_0 : seek pp28 0 = p28_0 := sk28_0
theorem sq28_18 : seek pp28 18 = p28_18 := sk28_18
theorem sq28_36 : seek pp28 36 = p28_36 := sk28_36
def pp29 : List EN := p29_0
theorem sq29_0 : seek pp29 0 = p29_0 := sk29_0
theorem sq29_22 : seek pp29 22 = p29_22 := sk29_22
theorem sq29_29 : seek pp29 29 = p29_29 := sk29_29
theorem sq29_56 : seek pp29 56 = p29_56 := sk29_56
theorem sq29_57 : seek pp29 57 = p29_57 := sk29_57
def pp30 : List EN := p30_0
theorem sq30_0 : seek pp30 0 = p30_0 := sk30_0
theorem sq30_14 : seek pp30 14 = p30_14 := sk30_14
theorem sq30_21 : seek pp30 21 = p30_21 := sk30_21
theorem sq30_33 : seek pp30 33 = p30_33 := sk30_33
theorem sq30_46 : seek pp30 46 = p30_46 := sk30_46
theorem sq30_60 : seek pp30 60 = p30_60 := sk30_60
theorem sq30_61 : seek pp30 61 = p30_61 := sk30_61
def pp31 : List EN := p31_0
theorem sq31_0 : seek pp31 0 = p31_0 := sk31_0
theorem sq31_14 : seek pp31 14 = p31_14 := sk31_14
theorem sq31_33 : seek pp31 33 = p31_33 := sk31_33
theorem sq31_50 : seek pp31 50 = p31_50 := sk31_50
theorem sq31_57 : seek pp31 57 = p31_57 := sk31_57
def pp32 : List EN := p32_0
theorem sq32_0 : seek pp32 0 = p32_0 := sk32_0
theorem sq32_14 : seek pp32 14 = p32_14 := sk32_14
theorem sq32_21 : seek pp32 21 = p32_21 := sk32_21
theorem sq32_43 : seek pp32 43 = p32_43 := sk32_43
theorem sq32_51 : seek pp32 51 = p32_51 := sk32_51
theorem sq32_79 : seek pp32 79 = p32_79 := sk32_79
theorem sq32_108 : seek pp32 108 = p32_108 := sk32_108
theorem sq32_115 : seek pp32 115 = p32_115 := sk32_115
def pp33 : List EN := p33_0
theorem sq33_0 : seek pp33 0 = p33_0 := sk33_0
theorem sq33_22 : seek pp33 22 = p33_22 := sk33_22
theorem sq33_29 : seek pp33 29 = p33_29 := sk33_29
theorem sq33_48 : seek pp33 48 = p33_48 := sk33_48
theorem sq33_64 : seek pp33 64 = p33_64 := sk33_64
theorem sq33_120 : seek pp33 120 = p33_120 := sk33_120
theorem sq33_126 : seek pp33 126 = p33_126 := sk33_126
def pp34 : List EN := p34_0
theorem sq34_0 : seek pp34 0 = p34_0 := sk34_0
theorem sq34_17 : seek pp34 17 = p34_17 := sk34_17
def pp35 : List EN := p35_0
theorem sq35_0 : seek pp35 0 = p35_0 := sk35_0
theorem sq35_40 : seek pp35 40 = p35_40 := sk35_40
theorem sq35_56 : seek pp35 56 = p35_56 := sk35_56
theorem sq35_64 : seek pp35 64 = p35_64 := sk35_64
theorem sq35_72 : seek pp35 72 = p35_72 := sk35_72
theorem sq35_81 : seek pp35 81 = p35_81 := sk35_81
theorem sq35_89 : seek pp35 89 = p35_89 := sk35_89
theorem sq35_94 : seek pp35 94 = p35_94 := sk35_94
def pp36 : List EN := p36_0
theorem sq36_0 : seek pp36 0 = p36_0 := sk36_0
def pp37 : List EN := p37_0
theorem sq37_0 : seek pp37 0 = p37_0 := sk37_0
theorem sq37_15 : seek pp37 15 = p37_15 := sk37_15
theorem sq37_16 : seek pp37 16 = p37_16 := sk37_16
def pp38 : List EN := p38_0
theorem sq38_0 : seek pp38 0 = p38_0 := sk38_0
theorem sq38_13 : seek pp38 13 = p38_13 := sk38_13
theorem sq38_14 : seek pp38 14 = p38_14 := sk38_14
def pp39 : List EN := p39_0
theorem sq39_0 : seek pp39 0 = p39_0 := sk39_0
theorem sq39_13 : seek pp39 13 = p39_13 := sk39_13
theorem sq39_14 : seek pp39 14 = p39_14 := sk39_14
def pp40 : List EN := p40_0
theorem sq40_0 : seek pp40 0 = p40_0 := sk40_0
theorem sq40_13 : seek pp40 13 = p40_13 := sk40_13
theorem sq40_14 : seek pp40 14 = p40_14 := sk40_14
def pp41 : List EN := p41_0
theorem sq41_0 : seek pp41 0 = p41_0 := sk41_0
theorem sq41_13 : seek pp41 13 = p41_13 := sk41_13
theorem sq41_14 : seek pp41 14 = p41_14 := sk41_14
def pp42 : List EN := p42_0
theorem sq42_0 : seek pp42 0 = p42_0 := sk42_0
theorem sq42_22 : seek pp42 22 = p42_22 := sk42_22
theorem sq42_26 : seek pp42 26 = p42_26 := sk42_26
theorem sq42_27 : seek pp42 27 = p42_27 := sk42_27
def pp43 : List EN := p43_0
theorem sq43_0 : seek pp43 0 = p43_0 := sk43_0
theorem sq43_10 : seek pp43 10 = p43_10 := sk43_10
theorem sq43_26 : seek pp43 26 = p43_26 := sk43_26
theorem sq43_30 : seek pp43 30 = p43_30 := sk43_30
theorem sq43_31 : seek pp43 31 = p43_31 := sk43_31
theorem sq43_32 : seek pp43 32 = p43_32 := sk43_32
theorem sq43_40 : seek pp43 40 = p43_40 := sk43_40
theorem sq43_41 : seek pp43 41 = p43_41 := sk43_41
def pp44 : List EN := p44_0
theorem sq44_0 : seek pp44 0 = p44_0 := sk44_0
theorem sq44_15 : seek pp44 15 = p44_15 := sk44_15
theorem sq44_19 : seek pp44 19 = p44_19 := sk44_19
theorem sq44_20 : seek pp44 20 = p44_20 := sk44_20
def pp45 : List EN := p45_0
theorem sq45_0 : seek pp45 0 = p45_0 := sk45_0
theorem sq45_4 : seek pp45 4 = p45_4 := sk45_4
theorem sq45_23 : seek pp45 23 = p45_23 := sk45_23
theorem sq45_35 : seek pp45 35 = p45_35 := sk45_35
def pp46 : List EN := p46_0
theorem sq46_0 : seek pp46 0 = p46_0 := sk46_0
set_option maxRecDepth 100000 in
theorem sq46_173 : seek pp46 173 = p46_173 := sk46_173
set_option maxRecDepth 100000 in
theorem sq46_194 : seek pp46 194 = p46_194 := sk46_194
def pp47 : List EN := p47_0
theorem sq47_0 : seek pp47 0 = p47_0 := sk47_0
def pp48 : List EN := p48_0
theorem sq48_0 : seek pp48 0 = p48_0 := sk48_0
theorem sq48_14 : seek pp48 14 = p48_14 := sk48_14
theorem sq48_15 : seek pp48 15 = p48_15 := sk48_15
def pp49 : List EN := p49_0
theorem sq49_0 : seek pp49 0 = p49_0 := sk49_0
theorem sq49_40 : seek pp49 40 = p49_40 := sk49_40
theorem sq49_41 : seek pp49 41 = p49_41 := sk49_41
def pp50 : List EN := p50_0
theorem sq50_0 : seek pp50 0 = p50_0 := sk50_0
def pp51 : List EN := p51_0
theorem sq51_0 : seek pp51 0 = p51_0 := sk51_0
theorem sq51_18 : seek pp51 18 = p51_18 := sk51_18
theorem sq51_19 : seek pp51 19 = p51_19 := sk51_19
def pp52 : List EN := p52_0
theorem sq52_0 : seek pp52 0 = p52_0 := sk52_0
def pp53 : List EN := p53_0
theorem sq53_0 : seek pp53 0 = p53_0 := sk53_0
theorem sq53_15 : seek pp53 15 = p53_15 := sk53_15
theorem sq53_19 : seek pp53 19 = p53_19 := sk53_19
theorem sq53_20 : seek pp53 20 = p53_20 := sk53_20
def pp54 : List EN := p54_0
theorem sq54_0 : seek pp54 0 = p54_0 := sk54_0
theorem sq54_11 : seek pp54 11 = p54_11 := sk54_11
theorem sq54_40 : seek pp54 40 = p54_40 := sk54_40
theorem sq54_50 : seek pp54 50 = p54_50 := sk54_50
theorem sq54_52 : seek pp54 52 = p54_52 := sk54_52
theorem sq54_86 : seek pp54 86 = p54_86 := sk54_86
def pp55 : List EN := p55_0
theorem sq55_0 : seek pp55 0 = p55_0 := sk55_0
theorem sq55_14 : seek pp55 14 = p55_14 := sk55_14
theorem sq55_26 : seek pp55 26 = p55_26 := sk55_26
theorem sq55_60 : seek pp55 60 = p55_60 := sk55_60
def pp56 : List EN := p56_0
theorem sq56_0 : seek pp56 0 = p56_0 := sk56_0
theorem sq56_4 : seek pp56 4 = p56_4 := sk56_4
theorem sq56_24 : seek pp56 24 = p56_24 := sk56_24
theorem sq56_25 : seek pp56 25 = p56_25 := sk56_25
theorem sq56_33 : seek pp56 33 = p56_33 := sk56_33
def pp57 : List EN := p57_0
theorem sq57_0 : seek pp57 0 = p57_0 := sk57_0
theorem sq57_4 : seek pp57 4 = p57_4 := sk57_4
theorem sq57_24 : seek pp57 24 = p57_24 := sk57_24
theorem sq57_25 : seek pp57 25 = p57_25 := sk57_25
theorem sq57_33 : seek pp57 33 = p57_33 := sk57_33
def pp58 : List EN := p58_0
theorem sq58_0 : seek pp58 0 = p58_0 := sk58_0
def pp59 : List EN := p59_0
theorem sq59_0 : seek pp59 0 = p59_0 := sk59_0
theorem sq59_20 : seek pp59 20 = p59_20 := sk59_20
theorem sq59_27 : seek pp59 27 = p59_27 := sk59_27
theorem sq59_47 : seek pp59 47 = p59_47 := sk59_47
theorem sq59_68 : seek pp59 68 = p59_68 := sk59_68
theorem sq59_74 : seek pp59 74 = p59_74 := sk59_74
theorem sq59_91 : seek pp59 91 = p59_91 := sk59_91
theorem sq59_120 : seek pp59 120 = p59_120 := sk59_120
set_option maxRecDepth 100000 in
theorem sq59_168 : seek pp59 168 = p59_168 := sk59_168
set_option maxRecDepth 100000 in
theorem sq59_178 : seek pp59 178 = p59_178 := sk59_178
set_option maxRecDepth 100000 in
theorem sq59_184 : seek pp59 184 = p59_184 := sk59_184
def pp60 : List EN := p60_0
theorem sq60_0 : seek pp60 0 = p60_0 := sk60_0
theorem sq60_2 : seek pp60 2 = p60_2 := sk60_2
theorem sq60_30 : seek pp60 30 = p60_30 := sk60_30
theorem sq60_36 : seek pp60 36 = p60_36 := sk60_36
def pp61 : List EN := p61_0
theorem sq61_0 : seek pp61 0 = p61_0 := sk61_0
theorem sq61_30 : seek pp61 30 = p61_30 := sk61_30
theorem sq61_39 : seek pp61 39 = p61_39 := sk61_39
theorem sq61_40 : seek pp61 40 = p61_40 := sk61_40
theorem sq61_46 : seek pp61 46 = p61_46 := sk61_46
theorem sq61_53 : seek pp61 53 = p61_53 := sk61_53
theorem sq61_70 : seek pp61 70 = p61_70 := sk61_70
theorem sq61_77 : seek pp61 77 = p61_77 := sk61_77
theorem sq61_98 : seek pp61 98 = p61_98 := sk61_98
def pp62 : List EN := p62_0
theorem sq62_0 : seek pp62 0 = p62_0 := sk62_0
theorem sq62_15 : seek pp62 15 = p62_15 := sk62_15
theorem sq62_33 : seek pp62 33 = p62_33 := sk62_33
def pp63 : List EN := p63_0
theorem sq63_0 : seek pp63 0 = p63_0 := sk63_0
theorem sq63_17 : seek pp63 17 = p63_17 := sk63_17
theorem sq63_24 : seek pp63 24 = p63_24 := sk63_24
theorem sq63_42 : seek pp63 42 = p63_42 := sk63_42
theorem sq63_63 : seek pp63 63 = p63_63 := sk63_63
theorem sq63_67 : seek pp63 67 = p63_67 := sk63_67
theorem sq63_73 : seek pp63 73 = p63_73 := sk63_73
def pp64 : List EN := p64_0
theorem sq64_0 : seek pp64 0 = p64_0 := sk64_0
theorem sq64_17 : seek pp64 17 = p64_17 := sk64_17
theorem sq64_24 : seek pp64 24 = p64_24 := sk64_24
theorem sq64_36 : seek pp64 36 = p64_36 := sk64_36
theorem sq64_53 : seek pp64 53 = p64_53 := sk64_53
theorem sq64_71 : seek pp64 71 = p64_71 := sk64_71
theorem sq64_76 : seek pp64 76 = p64_76 := sk64_76
def pp65 : List EN := p65_0
theorem sq65_0 : seek pp65 0 = p65_0 := sk65_0
theorem sq65_15 : seek pp65 15 = p65_15 := sk65_15
theorem sq65_31 : seek pp65 31 = p65_31 := sk65_31
theorem sq65_49 : seek pp65 49 = p65_49 := sk65_49
def pp66 : List EN := p66_0
theorem sq66_0 : seek pp66 0 = p66_0 := sk66_0
theorem sq66_15 : seek pp66 15 = p66_15 := sk66_15
theorem sq66_31 : seek pp66 31 = p66_31 := sk66_31
theorem sq66_47 : seek pp66 47 = p66_47 := sk66_47
def pp67 : List EN := p67_0
theorem sq67_0 : seek pp67 0 = p67_0 := sk67_0
theorem sq67_12 : seek pp67 12 = p67_12 := sk67_12
theorem sq67_21 : seek pp67 21 = p67_21 := sk67_21
theorem sq67_22 : seek pp67 22 = p67_22 := sk67_22
theorem sq67_37 : seek pp67 37 = p67_37 := sk67_37
theorem sq67_46 : seek pp67 46 = p67_46 := sk67_46
theorem sq67_47 : seek pp67 47 = p67_47 := sk67_47
theorem sq67_93 : seek pp67 93 = p67_93 := sk67_93
theorem sq67_94 : seek pp67 94 = p67_94 := sk67_94
def pp68 : List EN := p68_0
theorem sq68_0 : seek pp68 0 = p68_0 := sk68_0
theorem sq68_30 : seek pp68 30 = p68_30 := sk68_30
theorem sq68_34 : seek pp68 34 = p68_34 := sk68_34
theorem sq68_35 : seek pp68 35 = p68_35 := sk68_35
def pp69 : List EN := p69_0
theorem sq69_0 : seek pp69 0 = p69_0 := sk69_0
theorem sq69_10 : seek pp69 10 = p69_10 := sk69_10
theorem sq69_21 : seek pp69 21 = p69_21 := sk69_21
theorem sq69_24 : seek pp69 24 = p69_24 := sk69_24
def pp70 : List EN := p70_0
theorem sq70_0 : seek pp70 0 = p70_0 := sk70_0
theorem sq70_23 : seek pp70 23 = p70_23 := sk70_23
theorem sq70_25 : seek pp70 25 = p70_25 := sk70_25
theorem sq70_57 : seek pp70 57 = p70_57 := sk70_57
theorem sq70_60 : seek pp70 60 = p70_60 := sk70_60
def pp71 : List EN := p71_0
theorem sq71_0 : seek pp71 0 = p71_0 := sk71_0
theorem sq71_7 : seek pp71 7 = p71_7 := sk71_7
theorem sq71_42 : seek pp71 42 = p71_42 := sk71_42
theorem sq71_52 : seek pp71 52 = p71_52 := sk71_52
theorem sq71_53 : seek pp71 53 = p71_53 := sk71_53
def pp72 : List EN := p72_0
theorem sq72_0 : seek pp72 0 = p72_0 := sk72_0
theorem sq72_15 : seek pp72 15 = p72_15 := sk72_15
theorem sq72_22 : seek pp72 22 = p72_22 := sk72_22
def pp73 : List EN := p73_0
theorem sq73_0 : seek pp73 0 = p73_0 := sk73_0
theorem sq73_19 : seek pp73 19 = p73_19 := sk73_19
theorem sq73_26 : seek pp73 26 = p73_26 := sk73_26
theorem sq73_52 : seek pp73 52 = p73_52 := sk73_52
theorem sq73_58 : seek pp73 58 = p73_58 := sk73_58
def pp74 : List EN := p74_0
theorem sq74_0 : seek pp74 0 = p74_0 := sk74_0
theorem sq74_15 : seek pp74 15 = p74_15 := sk74_15
theorem sq74_22 : seek pp74 22 = p74_22 := sk74_22
theorem sq74_42 : seek pp74 42 = p74_42 := sk74_42
theorem sq74_43 : seek pp74 43 = p74_43 := sk74_43
def pp75 : List EN := p75_0
theorem sq75_0 : seek pp75 0 = p75_0 := sk75_0
theorem sq75_2 : seek pp75 2 = p75_2 := sk75_2
theorem sq75_38 : seek pp75 38 = p75_38 := sk75_38
theorem sq75_57 : seek pp75 57 = p75_57 := sk75_57
theorem sq75_125 : seek pp75 125 = p75_125 := sk75_125
theorem sq75_126 : seek pp75 126 = p75_126 := sk75_126
theorem sq75_130 : seek pp75 130 = p75_130 := sk75_130
set_option maxRecDepth 100000 in
theorem sq75_158 : seek pp75 158 = p75_158 := sk75_158
set_option maxRecDepth 100000 in
theorem sq75_169 : seek pp75 169 = p75_169 := sk75_169
set_option maxRecDepth 100000 in
theorem sq75_197 : seek pp75 197 = p75_197 := sk75_197
set_option maxRecDepth 100000 in
theorem sq75_200 : seek pp75 200 = p75_200 := sk75_200
def pp76 : List EN := p76_0
theorem sq76_0 : seek pp76 0 = p76_0 := sk76_0
theorem sq76_43 : seek pp76 43 = p76_43 := sk76_43
def pp77 : List EN := p77_0
theorem sq77_0 : seek pp77 0 = p77_0 := sk77_0
theorem sq77_50 : seek pp77 50 = p77_50 := sk77_50
theorem sq77_54 : seek pp77 54 = p77_54 := sk77_54
theorem sq77_55 : seek pp77 55 = p77_55 := sk77_55
def pp78 : List EN := p78_0
theorem sq78_0 : seek pp78 0 = p78_0 := sk78_0
theorem sq78_50 : seek pp78 50 = p78_50 := sk78_50
theorem sq78_54 : seek pp78 54 = p78_54 := sk78_54
theorem sq78_55 : seek pp78 55 = p78_55 := sk78_55
def pp79 : List EN := p79_0
theorem sq79_0 : seek pp79 0 = p79_0 := sk79_0
theorem sq79_15 : seek pp79 15 = p79_15 := sk79_15
theorem sq79_22 : seek pp79 22 = p79_22 := sk79_22
theorem sq79_37 : seek pp79 37 = p79_37 := sk79_37
theorem sq79_50 : seek pp79 50 = p79_50 := sk79_50
theorem sq79_77 : seek pp79 77 = p79_77 := sk79_77
theorem sq79_78 : seek pp79 78 = p79_78 := sk79_78
theorem sq79_87 : seek pp79 87 = p79_87 := sk79_87
theorem sq79_98 : seek pp79 98 = p79_98 := sk79_98
theorem sq79_107 : seek pp79 107 = p79_107 := sk79_107
theorem sq79_108 : seek pp79 108 = p79_108 := sk79_108
theorem sq79_117 : seek pp79 117 = p79_117 := sk79_117
def pp80 : List EN := p80_0
theorem sq80_0 : seek pp80 0 = p80_0 := sk80_0
theorem sq80_5 : seek pp80 5 = p80_5 := sk80_5
theorem sq80_37 : seek pp80 37 = p80_37 := sk80_37
theorem sq80_38 : seek pp80 38 = p80_38 := sk80_38
theorem sq80_46 : seek pp80 46 = p80_46 := sk80_46
def pp81 : List EN := p81_0
theorem sq81_0 : seek pp81 0 = p81_0 := sk81_0
theorem sq81_25 : seek pp81 25 = p81_25 := sk81_25
theorem sq81_31 : seek pp81 31 = p81_31 := sk81_31
def pp82 : List EN := p82_0
theorem sq82_0 : seek pp82 0 = p82_0 := sk82_0
theorem sq82_15 : seek pp82 15 = p82_15 := sk82_15
theorem sq82_19 : seek pp82 19 = p82_19 := sk82_19
theorem sq82_47 : seek pp82 47 = p82_47 := sk82_47
theorem sq82_48 : seek pp82 48 = p82_48 := sk82_48
theorem sq82_56 : seek pp82 56 = p82_56 := sk82_56
def pp83 : List EN := p83_0
theorem sq83_0 : seek pp83 0 = p83_0 := sk83_0
theorem sq83_7 : seek pp83 7 = p83_7 := sk83_7
theorem sq83_27 : seek pp83 27 = p83_27 := sk83_27
theorem sq83_29 : seek pp83 29 = p83_29 := sk83_29
theorem sq83_69 : seek pp83 69 = p83_69 := sk83_69
theorem sq83_95 : seek pp83 95 = p83_95 := sk83_95
theorem sq83_128 : seek pp83 128 = p83_128 := sk83_128
theorem sq83_134 : seek pp83 134 = p83_134 := sk83_134
def pp84 : List EN := p84_0
theorem sq84_0 : seek pp84 0 = p84_0 := sk84_0
def pp85 : List EN := p85_0
theorem sq85_0 : seek pp85 0 = p85_0 := sk85_0
theorem sq85_16 : seek pp85 16 = p85_16 := sk85_16
theorem sq85_23 : seek pp85 23 = p85_23 := sk85_23
theorem sq85_36 : seek pp85 36 = p85_36 := sk85_36
theorem sq85_42 : seek pp85 42 = p85_42 := sk85_42
def pp86 : List EN := p86_0
theorem sq86_0 : seek pp86 0 = p86_0 := sk86_0
theorem sq86_24 : seek pp86 24 = p86_24 := sk86_24
theorem sq86_31 : seek pp86 31 = p86_31 := sk86_31
theorem sq86_48 : seek pp86 48 = p86_48 := sk86_48
theorem sq86_55 : seek pp86 55 = p86_55 := sk86_55
theorem sq86_73 : seek pp86 73 = p86_73 := sk86_73
def pp87 : List EN := p87_0
theorem sq87_0 : seek pp87 0 = p87_0 := sk87_0
theorem sq87_16 : seek pp87 16 = p87_16 := sk87_16
def pp88 : List EN := p88_0
theorem sq88_0 : seek pp88 0 = p88_0 := sk88_0
theorem sq88_15 : seek pp88 15 = p88_15 := sk88_15
theorem sq88_22 : seek pp88 22 = p88_22 := sk88_22
def pp89 : List EN := p89_0
theorem sq89_0 : seek pp89 0 = p89_0 := sk89_0
theorem sq89_2 : seek pp89 2 = p89_2 := sk89_2
theorem sq89_21 : seek pp89 21 = p89_21 := sk89_21
theorem sq89_23 : seek pp89 23 = p89_23 := sk89_23
theorem sq89_68 : seek pp89 68 = p89_68 := sk89_68
theorem sq89_98 : seek pp89 98 = p89_98 := sk89_98
theorem sq89_117 : seek pp89 117 = p89_117 := sk89_117
theorem sq89_118 : seek pp89 118 = p89_118 := sk89_118
theorem sq89_126 : seek pp89 126 = p89_126 := sk89_126
theorem sq89_132 : seek pp89 132 = p89_132 := sk89_132
def pp90 : List EN := p90_0
theorem sq90_0 : seek pp90 0 = p90_0 := sk90_0
theorem sq90_15 : seek pp90 15 = p90_15 := sk90_15
def pp91 : List EN := p91_0
theorem sq91_0 : seek pp91 0 = p91_0 := sk91_0
theorem sq91_16 : seek pp91 16 = p91_16 := sk91_16
theorem sq91_24 : seek pp91 24 = p91_24 := sk91_24
theorem sq91_49 : seek pp91 49 = p91_49 := sk91_49
def pp92 : List EN := p92_0
theorem sq92_0 : seek pp92 0 = p92_0 := sk92_0
theorem sq92_4 : seek pp92 4 = p92_4 := sk92_4
theorem sq92_29 : seek pp92 29 = p92_29 := sk92_29
def pp93 : List EN := p93_0
theorem sq93_0 : seek pp93 0 = p93_0 := sk93_0
theorem sq93_4 : seek pp93 4 = p93_4 := sk93_4
theorem sq93_16 : seek pp93 16 = p93_16 := sk93_16
theorem sq93_79 : seek pp93 79 = p93_79 := sk93_79
theorem sq93_85 : seek pp93 85 = p93_85 := sk93_85
theorem sq93_94 : seek pp93 94 = p93_94 := sk93_94
theorem sq93_95 : seek pp93 95 = p93_95 := sk93_95
theorem sq93_100 : seek pp93 100 = p93_100 := sk93_100
def pp94 : List EN := p94_0
theorem sq94_0 : seek pp94 0 = p94_0 := sk94_0
theorem sq94_2 : seek pp94 2 = p94_2 := sk94_2
theorem sq94_30 : seek pp94 30 = p94_30 := sk94_30
theorem sq94_43 : seek pp94 43 = p94_43 := sk94_43
theorem sq94_74 : seek pp94 74 = p94_74 := sk94_74
theorem sq94_82 : seek pp94 82 = p94_82 := sk94_82
theorem sq94_83 : seek pp94 83 = p94_83 := sk94_83
def pp95 : List EN := p95_0
theorem sq95_0 : seek pp95 0 = p95_0 := sk95_0
def pp96 : List EN := p96_0
theorem sq96_0 : seek pp96 0 = p96_0 := sk96_0
theorem sq96_7 : seek pp96 7 = p96_7 := sk96_7
theorem sq96_58 : seek pp96 58 = p96_58 := sk96_58
theorem sq96_61 : seek pp96 61 = p96_61 := sk96_61
theorem sq96_67 : seek pp96 67 = p96_67 := sk96_67
def pp97 : List EN := p97_0
theorem sq97_0 : seek pp97 0 = p97_0 := sk97_0
theorem sq97_16 : seek pp97 16 = p97_16 := sk97_16
theorem sq97_23 : seek pp97 23 = p97_23 := sk97_23
theorem sq97_32 : seek pp97 32 = p97_32 := sk97_32
theorem sq97_106 : seek pp97 106 = p97_106 := sk97_106
theorem sq97_120 : seek pp97 120 = p97_120 := sk97_120
theorem sq97_133 : seek pp97 133 = p97_133 := sk97_133
theorem sq97_134 : seek pp97 134 = p97_134 := sk97_134
def pp98 : List EN := p98_0
theorem sq98_0 : seek pp98 0 = p98_0 := sk98_0
theorem sq98_23 : seek pp98 23 = p98_23 := sk98_23
def pp99 : List EN := p99_0
theorem sq99_0 : seek pp99 0 = p99_0 := sk99_0
theorem sq99_23 : seek pp99 23 = p99_23 := sk99_23
theorem sq99_27 : seek pp99 27 = p99_27 := sk99_27
theorem sq99_28 : seek pp99 28 = p99_28 := sk99_28
def pp100 : List EN := p100_0
theorem sq100_0 : seek pp100 0 = p100_0 := sk100_0
theorem sq100_2 : seek pp100 2 = p100_2 := sk100_2
theorem sq100_21 : seek pp100 21 = p100_21 := sk100_21
theorem sq100_30 : seek pp100 30 = p100_30 := sk100_30
theorem sq100_48 : seek pp100 48 = p100_48 := sk100_48
theorem sq100_67 : seek pp100 67 = p100_67 := sk100_67
theorem sq100_134 : seek pp100 134 = p100_134 := sk100_134
theorem sq100_140 : seek pp100 140 = p100_140 := sk100_140
theorem sq100_143 : seek pp100 143 = p100_143 := sk100_143
def pp101 : List EN := p101_0
theorem sq101_0 : seek pp101 0 = p101_0 := sk101_0
theorem sq101_16 : seek pp101 16 = p101_16 := sk101_16
theorem sq101_23 : seek pp101 23 = p101_23 := sk101_23
theorem sq101_46 : seek pp101 46 = p101_46 := sk101_46
theorem sq101_52 : seek pp101 52 = p101_52 := sk101_52
def pp102 : List EN := p102_0
theorem sq102_0 : seek pp102 0 = p102_0 := sk102_0
theorem sq102_7 : seek pp102 7 = p102_7 := sk102_7
theorem sq102_64 : seek pp102 64 = p102_64 := sk102_64
theorem sq102_70 : seek pp102 70 = p102_70 := sk102_70
def pp103 : List EN := p103_0
theorem sq103_0 : seek pp103 0 = p103_0 := sk103_0
theorem sq103_16 : seek pp103 16 = p103_16 := sk103_16
theorem sq103_23 : seek pp103 23 = p103_23 := sk103_23
theorem sq103_43 : seek pp103 43 = p103_43 := sk103_43
theorem sq103_44 : seek pp103 44 = p103_44 := sk103_44
def pp104 : List EN := p104_0
theorem sq104_0 : seek pp104 0 = p104_0 := sk104_0
theorem sq104_15 : seek pp104 15 = p104_15 := sk104_15
theorem sq104_30 : seek pp104 30 = p104_30 := sk104_30
theorem sq104_39 : seek pp104 39 = p104_39 := sk104_39
theorem sq104_59 : seek pp104 59 = p104_59 := sk104_59
theorem sq104_60 : seek pp104 60 = p104_60 := sk104_60
theorem sq104_68 : seek pp104 68 = p104_68 := sk104_68
def pp105 : List EN := p105_0
theorem sq105_0 : seek pp105 0 = p105_0 := sk105_0
theorem sq105_16 : seek pp105 16 = p105_16 := sk105_16
theorem sq105_23 : seek pp105 23 = p105_23 := sk105_23
theorem sq105_44 : seek pp105 44 = p105_44 := sk105_44
theorem sq105_46 : seek pp105 46 = p105_46 := sk105_46
theorem sq105_65 : seek pp105 65 = p105_65 := sk105_65
theorem sq105_70 : seek pp105 70 = p105_70 := sk105_70
theorem sq105_93 : seek pp105 93 = p105_93 := sk105_93
theorem sq105_122 : seek pp105 122 = p105_122 := sk105_122
def pp106 : List EN := p106_0
theorem sq106_0 : seek pp106 0 = p106_0 := sk106_0
theorem sq106_10 : seek pp106 10 = p106_10 := sk106_10
theorem sq106_52 : seek pp106 52 = p106_52 := sk106_52
theorem sq106_58 : seek pp106 58 = p106_58 := sk106_58
def pp107 : List EN := p107_0
theorem sq107_0 : seek pp107 0 = p107_0 := sk107_0
def pp108 : List EN := p108_0
theorem sq108_0 : seek pp108 0 = p108_0 := sk108_0
theorem sq108_29 : seek pp108 29 = p108_29 := sk108_29
theorem sq108_36 : seek pp108 36 = p108_36 := sk108_36
theorem sq108_47 : seek pp108 47 = p108_47 := sk108_47
theorem sq108_60 : seek pp108 60 = p108_60 := sk108_60
theorem sq108_80 : seek pp108 80 = p108_80 := sk108_80
theorem sq108_81 : seek pp108 81 = p108_81 := sk108_81
theorem sq108_85 : seek pp108 85 = p108_85 := sk108_85
theorem sq108_111 : seek pp108 111 = p108_111 := sk108_111
def pp109 : List EN := p109_0
theorem sq109_0 : seek pp109 0 = p109_0 := sk109_0
theorem sq109_14 : seek pp109 14 = p109_14 := sk109_14
theorem sq109_30 : seek pp109 30 = p109_30 := sk109_30
theorem sq109_44 : seek pp109 44 = p109_44 := sk109_44
theorem sq109_51 : seek pp109 51 = p109_51 := sk109_51
theorem sq109_77 : seek pp109 77 = p109_77 := sk109_77
theorem sq109_93 : seek pp109 93 = p109_93 := sk109_93
theorem sq109_94 : seek pp109 94 = p109_94 := sk109_94
def pp110 : List EN := p110_0
theorem sq110_0 : seek pp110 0 = p110_0 := sk110_0
theorem sq110_34 : seek pp110 34 = p110_34 := sk110_34
theorem sq110_35 : seek pp110 35 = p110_35 := sk110_35
def pp111 : List EN := p111_0
theorem sq111_0 : seek pp111 0 = p111_0 := sk111_0
theorem sq111_14 : seek pp111 14 = p111_14 := sk111_14
theorem sq111_21 : seek pp111 21 = p111_21 := sk111_21
theorem sq111_39 : seek pp111 39 = p111_39 := sk111_39
theorem sq111_46 : seek pp111 46 = p111_46 := sk111_46
theorem sq111_68 : seek pp111 68 = p111_68 := sk111_68
theorem sq111_91 : seek pp111 91 = p111_91 := sk111_91
theorem sq111_98 : seek pp111 98 = p111_98 := sk111_98
theorem sq111_101 : seek pp111 101 = p111_101 := sk111_101
theorem sq111_135 : seek pp111 135 = p111_135 := sk111_135
theorem sq111_138 : seek pp111 138 = p111_138 := sk111_138
set_option maxRecDepth 100000 in
theorem sq111_173 : seek pp111 173 = p111_173 := sk111_173
def pp112 : List EN := p112_0
theorem sq112_0 : seek pp112 0 = p112_0 := sk112_0
theorem sq112_21 : seek pp112 21 = p112_21 := sk112_21
theorem sq112_28 : seek pp112 28 = p112_28 := sk112_28
theorem sq112_44 : seek pp112 44 = p112_44 := sk112_44
theorem sq112_53 : seek pp112 53 = p112_53 := sk112_53
theorem sq112_130 : seek pp112 130 = p112_130 := sk112_130
theorem sq112_140 : seek pp112 140 = p112_140 := sk112_140
theorem sq112_150 : seek pp112 150 = p112_150 := sk112_150
set_option maxRecDepth 100000 in
theorem sq112_161 : seek pp112 161 = p112_161 := sk112_161
set_option maxRecDepth 100000 in
theorem sq112_162 : seek pp112 162 = p112_162 := sk112_162
set_option maxRecDepth 100000 in
theorem sq112_172 : seek pp112 172 = p112_172 := sk112_172
set_option maxRecDepth 100000 in
theorem sq112_186 : seek pp112 186 = p112_186 := sk112_186
set_option maxRecDepth 100000 in
theorem sq112_191 : seek pp112 191 = p112_191 := sk112_191
set_option maxRecDepth 100000 in
theorem sq112_197 : seek pp112 197 = p112_197 := sk112_197
set_option maxRecDepth 100000 in
theorem sq112_203 : seek pp112 203 = p112_203 := sk112_203
def pp113 : List EN := p113_0
theorem sq113_0 : seek pp113 0 = p113_0 := sk113_0
theorem sq113_40 : seek pp113 40 = p113_40 := sk113_40
theorem sq113_54 : seek pp113 54 = p113_54 := sk113_54
theorem sq113_59 : seek pp113 59 = p113_59 := sk113_59
theorem sq113_66 : seek pp113 66 = p113_66 := sk113_66
theorem sq113_71 : seek pp113 71 = p113_71 := sk113_71
theorem sq113_76 : seek pp113 76 = p113_76 := sk113_76
theorem sq113_81 : seek pp113 81 = p113_81 := sk113_81
def pp114 : List EN := p114_0
theorem sq114_0 : seek pp114 0 = p114_0 := sk114_0
def pp115 : List EN := p115_0
theorem sq115_0 : seek pp115 0 = p115_0 := sk115_0
theorem sq115_10 : seek pp115 10 = p115_10 := sk115_10
theorem sq115_40 : seek pp115 40 = p115_40 := sk115_40
theorem sq115_78 : seek pp115 78 = p115_78 := sk115_78
theorem sq115_95 : seek pp115 95 = p115_95 := sk115_95
theorem sq115_101 : seek pp115 101 = p115_101 := sk115_101
theorem sq115_107 : seek pp115 107 = p115_107 := sk115_107
def pp116 : List EN := p116_0
theorem sq116_0 : seek pp116 0 = p116_0 := sk116_0
theorem sq116_4 : seek pp116 4 = p116_4 := sk116_4
theorem sq116_29 : seek pp116 29 = p116_29 := sk116_29
def pp117 : List EN := p117_0
theorem sq117_0 : seek pp117 0 = p117_0 := sk117_0
theorem sq117_12 : seek pp117 12 = p117_12 := sk117_12
theorem sq117_36 : seek pp117 36 = p117_36 := sk117_36
theorem sq117_62 : seek pp117 62 = p117_62 := sk117_62
def pp118 : List EN := p118_0
theorem sq118_0 : seek pp118 0 = p118_0 := sk118_0
theorem sq118_4 : seek pp118 4 = p118_4 := sk118_4
theorem sq118_58 : seek pp118 58 = p118_58 := sk118_58
theorem sq118_64 : seek pp118 64 = p118_64 := sk118_64
def pp119 : List EN := p119_0
theorem sq119_0 : seek pp119 0 = p119_0 := sk119_0
def pp120 : List EN := p120_0
theorem sq120_0 : seek pp120 0 = p120_0 := sk120_0
def pp121 : List EN := p121_0
theorem sq121_0 : seek pp121 0 = p121_0 := sk121_0
theorem sq121_36 : seek pp121 36 = p121_36 := sk121_36
theorem sq121_37 : seek pp121 37 = p121_37 := sk121_37
def pp122 : List EN := p122_0
theorem sq122_0 : seek pp122 0 = p122_0 := sk122_0
theorem sq122_16 : seek pp122 16 = p122_16 := sk122_16
theorem sq122_17 : seek pp122 17 = p122_17 := sk122_17
def pp123 : List EN := p123_0
theorem sq123_0 : seek pp123 0 = p123_0 := sk123_0
theorem sq123_49 : seek pp123 49 = p123_49 := sk123_49
theorem sq123_51 : seek pp123 51 = p123_51 := sk123_51
def pp124 : List EN := p124_0
theorem sq124_0 : seek pp124 0 = p124_0 := sk124_0
theorem sq124_28 : seek pp124 28 = p124_28 := sk124_28
theorem sq124_32 : seek pp124 32 = p124_32 := sk124_32
theorem sq124_33 : seek pp124 33 = p124_33 := sk124_33
def pp125 : List EN := p125_0
theorem sq125_0 : seek pp125 0 = p125_0 := sk125_0
theorem sq125_30 : seek pp125 30 = p125_30 := sk125_30
theorem sq125_34 : seek pp125 34 = p125_34 := sk125_34
theorem sq125_35 : seek pp125 35 = p125_35 := sk125_35
def pp126 : List EN := p126_0
theorem sq126_0 : seek pp126 0 = p126_0 := sk126_0
theorem sq126_22 : seek pp126 22 = p126_22 := sk126_22
theorem sq126_23 : seek pp126 23 = p126_23 := sk126_23
def pp127 : List EN := p127_0
theorem sq127_0 : seek pp127 0 = p127_0 := sk127_0
theorem sq127_14 : seek pp127 14 = p127_14 := sk127_14
theorem sq127_29 : seek pp127 29 = p127_29 := sk127_29
theorem sq127_32 : seek pp127 32 = p127_32 := sk127_32
def pp128 : List EN := p128_0
theorem sq128_0 : seek pp128 0 = p128_0 := sk128_0
theorem sq128_2 : seek pp128 2 = p128_2 := sk128_2
theorem sq128_22 : seek pp128 22 = p128_22 := sk128_22
theorem sq128_28 : seek pp128 28 = p128_28 := sk128_28
def pp129 : List EN := p129_0
theorem sq129_0 : seek pp129 0 = p129_0 := sk129_0
def pp130 : List EN := p130_0
theorem sq130_0 : seek pp130 0 = p130_0 := sk130_0
theorem sq130_4 : seek pp130 4 = p130_4 := sk130_4
theorem sq130_23 : seek pp130 23 = p130_23 := sk130_23
theorem sq130_29 : seek pp130 29 = p130_29 := sk130_29
def pp131 : List EN := p131_0
theorem sq131_0 : seek pp131 0 = p131_0 := sk131_0
theorem sq131_4 : seek pp131 4 = p131_4 := sk131_4
theorem sq131_25 : seek pp131 25 = p131_25 := sk131_25
def pp132 : List EN := p132_0
theorem sq132_0 : seek pp132 0 = p132_0 := sk132_0
def pp133 : List EN := p133_0
theorem sq133_0 : seek pp133 0 = p133_0 := sk133_0
def pp134 : List EN := p134_0
theorem sq134_0 : seek pp134 0 = p134_0 := sk134_0
theorem sq134_49 : seek pp134 49 = p134_49 := sk134_49
def pp135 : List EN := p135_0
theorem sq135_0 : seek pp135 0 = p135_0 := sk135_0
theorem sq135_12 : seek pp135 12 = p135_12 := sk135_12
theorem sq135_33 : seek pp135 33 = p135_33 := sk135_33
theorem sq135_39 : seek pp135 39 = p135_39 := sk135_39
theorem sq135_52 : seek pp135 52 = p135_52 := sk135_52
theorem sq135_97 : seek pp135 97 = p135_97 := sk135_97
theorem sq135_103 : seek pp135 103 = p135_103 := sk135_103
def pp136 : List EN := p136_0
theorem sq136_0 : seek pp136 0 = p136_0 := sk136_0
theorem sq136_4 : seek pp136 4 = p136_4 := sk136_4
theorem sq136_33 : seek pp136 33 = p136_33 := sk136_33
theorem sq136_39 : seek pp136 39 = p136_39 := sk136_39
def pp137 : List EN := p137_0
theorem sq137_0 : seek pp137 0 = p137_0 := sk137_0
theorem sq137_4 : seek pp137 4 = p137_4 := sk137_4
theorem sq137_34 : seek pp137 34 = p137_34 := sk137_34
theorem sq137_37 : seek pp137 37 = p137_37 := sk137_37
theorem sq137_43 : seek pp137 43 = p137_43 := sk137_43
def pp138 : List EN := p138_0
theorem sq138_0 : seek pp138 0 = p138_0 := sk138_0
theorem sq138_18 : seek pp138 18 = p138_18 := sk138_18
theorem sq138_20 : seek pp138 20 = p138_20 := sk138_20
theorem sq138_34 : seek pp138 34 = p138_34 := sk138_34
theorem sq138_49 : seek pp138 49 = p138_49 := sk138_49
theorem sq138_66 : seek pp138 66 = p138_66 := sk138_66
theorem sq138_83 : seek pp138 83 = p138_83 := sk138_83
theorem sq138_93 : seek pp138 93 = p138_93 := sk138_93
def pp139 : List EN := p139_0
theorem sq139_0 : seek pp139 0 = p139_0 := sk139_0
theorem sq139_15 : seek pp139 15 = p139_15 := sk139_15
theorem sq139_40 : seek pp139 40 = p139_40 := sk139_40
def pp140 : List EN := p140_0
theorem sq140_0 : seek pp140 0 = p140_0 := sk140_0
theorem sq140_43 : seek pp140 43 = p140_43 := sk140_43
theorem sq140_56 : seek pp140 56 = p140_56 := sk140_56
def pp141 : List EN := p141_0
theorem sq141_0 : seek pp141 0 = p141_0 := sk141_0
theorem sq141_38 : seek pp141 38 = p141_38 := sk141_38
def pp142 : List EN := p142_0
theorem sq142_0 : seek pp142 0 = p142_0 := sk142_0
def pp143 : List EN := p143_0
theorem sq143_0 : seek pp143 0 = p143_0 := sk143_0
theorem sq143_24 : seek pp143 24 = p143_24 := sk143_24
theorem sq143_83 : seek pp143 83 = p143_83 := sk143_83
theorem sq143_84 : seek pp143 84 = p143_84 := sk143_84
theorem sq143_93 : seek pp143 93 = p143_93 := sk143_93
def pp144 : List EN := p144_0
theorem sq144_0 : seek pp144 0 = p144_0 := sk144_0
theorem sq144_25 : seek pp144 25 = p144_25 := sk144_25
theorem sq144_27 : seek pp144 27 = p144_27 := sk144_27
def pp145 : List EN := p145_0
theorem sq145_0 : seek pp145 0 = p145_0 := sk145_0
def pp146 : List EN := p146_0
theorem sq146_0 : seek pp146 0 = p146_0 := sk146_0
theorem sq146_15 : seek pp146 15 = p146_15 := sk146_15
theorem sq146_47 : seek pp146 47 = p146_47 := sk146_47
theorem sq146_53 : seek pp146 53 = p146_53 := sk146_53
def pp147 : List EN := p147_0
theorem sq147_0 : seek pp147 0 = p147_0 := sk147_0
theorem sq147_16 : seek pp147 16 = p147_16 := sk147_16
theorem sq147_48 : seek pp147 48 = p147_48 := sk147_48
theorem sq147_104 : seek pp147 104 = p147_104 := sk147_104
def pp148 : List EN := p148_0
theorem sq148_0 : seek pp148 0 = p148_0 := sk148_0
def pp149 : List EN := p149_0
theorem sq149_0 : seek pp149 0 = p149_0 := sk149_0
theorem sq149_13 : seek pp149 13 = p149_13 := sk149_13
theorem sq149_14 : seek pp149 14 = p149_14 := sk149_14
def pp150 : List EN := p150_0
theorem sq150_0 : seek pp150 0 = p150_0 := sk150_0
theorem sq150_17 : seek pp150 17 = p150_17 := sk150_17
theorem sq150_43 : seek pp150 43 = p150_43 := sk150_43
def pp151 : List EN := p151_0
theorem sq151_0 : seek pp151 0 = p151_0 := sk151_0
def pp152 : List EN := p152_0
theorem sq152_0 : seek pp152 0 = p152_0 := sk152_0
theorem sq152_19 : seek pp152 19 = p152_19 := sk152_19
theorem sq152_37 : seek pp152 37 = p152_37 := sk152_37
theorem sq152_38 : seek pp152 38 = p152_38 := sk152_38
def pp153 : List EN := p153_0
theorem sq153_0 : seek pp153 0 = p153_0 := sk153_0
theorem sq153_34 : seek pp153 34 = p153_34 := sk153_34
theorem sq153_35 : seek pp153 35 = p153_35 := sk153_35
def pp154 : List EN := p154_0
theorem sq154_0 : seek pp154 0 = p154_0 := sk154_0
def pp155 : List EN := p155_0
theorem sq155_0 : seek pp155 0 = p155_0 := sk155_0
def pp156 : List EN := p156_0
theorem sq156_0 : seek pp156 0 = p156_0 := sk156_0
theorem sq156_29 : seek pp156 29 = p156_29 := sk156_29
theorem sq156_75 : seek pp156 75 = p156_75 := sk156_75
def pp157 : List EN := p157_0
theorem sq157_0 : seek pp157 0 = p157_0 := sk157_0
theorem sq157_14 : seek pp157 14 = p157_14 := sk157_14
theorem sq157_35 : seek pp157 35 = p157_35 := sk157_35
theorem sq157_77 : seek pp157 77 = p157_77 := sk157_77
def pp158 : List EN := p158_0
theorem sq158_0 : seek pp158 0 = p158_0 := sk158_0
theorem sq158_59 : seek pp158 59 = p158_59 := sk158_59
def pp159 : List EN := p159_0
theorem sq159_0 : seek pp159 0 = p159_0 := sk159_0
theorem sq159_17 : seek pp159 17 = p159_17 := sk159_17
theorem sq159_18 : seek pp159 18 = p159_18 := sk159_18
def pp160 : List EN := p160_0
theorem sq160_0 : seek pp160 0 = p160_0 := sk160_0
theorem sq160_17 : seek pp160 17 = p160_17 := sk160_17
theorem sq160_18 : seek pp160 18 = p160_18 := sk160_18
def pp161 : List EN := p161_0
theorem sq161_0 : seek pp161 0 = p161_0 := sk161_0
theorem sq161_16 : seek pp161 16 = p161_16 := sk161_16
theorem sq161_20 : seek pp161 20 = p161_20 := sk161_20
theorem sq161_21 : seek pp161 21 = p161_21 := sk161_21
def pp162 : List EN := p162_0
theorem sq162_0 : seek pp162 0 = p162_0 := sk162_0
theorem sq162_4 : seek pp162 4 = p162_4 := sk162_4
theorem sq162_21 : seek pp162 21 = p162_21 := sk162_21
theorem sq162_27 : seek pp162 27 = p162_27 := sk162_27
def pp163 : List EN := p163_0
theorem sq163_0 : seek pp163 0 = p163_0 := sk163_0
theorem sq163_10 : seek pp163 10 = p163_10 := sk163_10
theorem sq163_20 : seek pp163 20 = p163_20 := sk163_20
theorem sq163_35 : seek pp163 35 = p163_35 := sk163_35
theorem sq163_60 : seek pp163 60 = p163_60 := sk163_60
theorem sq163_68 : seek pp163 68 = p163_68 := sk163_68
theorem sq163_74 : seek pp163 74 = p163_74 := sk163_74
theorem sq163_80 : seek pp163 80 = p163_80 := sk163_80
theorem sq163_85 : seek pp163 85 = p163_85 := sk163_85
theorem sq163_108 : seek pp163 108 = p163_108 := sk163_108
def pp164 : List EN := p164_0
theorem sq164_0 : seek pp164 0 = p164_0 := sk164_0
def pp165 : List EN := p165_0
theorem sq165_0 : seek pp165 0 = p165_0 := sk165_0
theorem sq165_26 : seek pp165 26 = p165_26 := sk165_26
theorem sq165_57 : seek pp165 57 = p165_57 := sk165_57
def pp166 : List EN := p166_0
theorem sq166_0 : seek pp166 0 = p166_0 := sk166_0
theorem sq166_14 : seek pp166 14 = p166_14 := sk166_14
theorem sq166_15 : seek pp166 15 = p166_15 := sk166_15
theorem sq166_70 : seek pp166 70 = p166_70 := sk166_70
theorem sq166_88 : seek pp166 88 = p166_88 := sk166_88
def pp167 : List EN := p167_0
theorem sq167_0 : seek pp167 0 = p167_0 := sk167_0
def pp168 : List EN := p168_0
theorem sq168_0 : seek pp168 0 = p168_0 := sk168_0
theorem sq168_36 : seek pp168 36 = p168_36 := sk168_36
theorem sq168_40 : seek pp168 40 = p168_40 := sk168_40
theorem sq168_41 : seek pp168 41 = p168_41 := sk168_41
def pp169 : List EN := p169_0
theorem sq169_0 : seek pp169 0 = p169_0 := sk169_0
theorem sq169_2 : seek pp169 2 = p169_2 := sk169_2
theorem sq169_45 : seek pp169 45 = p169_45 := sk169_45
theorem sq169_51 : seek pp169 51 = p169_51 := sk169_51
def pp170 : List EN := p170_0
theorem sq170_0 : seek pp170 0 = p170_0 := sk170_0
def pp171 : List EN := p171_0
theorem sq171_0 : seek pp171 0 = p171_0 := sk171_0
theorem sq171_23 : seek pp171 23 = p171_23 := sk171_23
theorem sq171_37 : seek pp171 37 = p171_37 := sk171_37
theorem sq171_53 : seek pp171 53 = p171_53 := sk171_53
theorem sq171_69 : seek pp171 69 = p171_69 := sk171_69
theorem sq171_71 : seek pp171 71 = p171_71 := sk171_71
theorem sq171_95 : seek pp171 95 = p171_95 := sk171_95
def pp172 : List EN := p172_0
theorem sq172_0 : seek pp172 0 = p172_0 := sk172_0
theorem sq172_3 : seek pp172 3 = p172_3 := sk172_3
theorem sq172_57 : seek pp172 57 = p172_57 := sk172_57
theorem sq172_63 : seek pp172 63 = p172_63 := sk172_63
theorem sq172_83 : seek pp172 83 = p172_83 := sk172_83
theorem sq172_90 : seek pp172 90 = p172_90 := sk172_90
def pp173 : List EN := p173_0
theorem sq173_0 : seek pp173 0 = p173_0 := sk173_0
def pp174 : List EN := p174_0
theorem sq174_0 : seek pp174 0 = p174_0 := sk174_0
theorem sq174_22 : seek pp174 22 = p174_22 := sk174_22
theorem sq174_39 : seek pp174 39 = p174_39 := sk174_39
theorem sq174_81 : seek pp174 81 = p174_81 := sk174_81
theorem sq174_87 : seek pp174 87 = p174_87 := sk174_87
def pp175 : List EN := p175_0
theorem sq175_0 : seek pp175 0 = p175_0 := sk175_0
theorem sq175_57 : seek pp175 57 = p175_57 := sk175_57
def pp176 : List EN := p176_0
theorem sq176_0 : seek pp176 0 = p176_0 := sk176_0
theorem sq176_11 : seek pp176 11 = p176_11 := sk176_11
theorem sq176_13 : seek pp176 13 = p176_13 := sk176_13
theorem sq176_51 : seek pp176 51 = p176_51 := sk176_51
theorem sq176_57 : seek pp176 57 = p176_57 := sk176_57
def pp177 : List EN := p177_0
theorem sq177_0 : seek pp177 0 = p177_0 := sk177_0
def pp178 : List EN := p178_0
theorem sq178_0 : seek pp178 0 = p178_0 := sk178_0
theorem sq178_5 : seek pp178 5 = p178_5 := sk178_5
theorem sq178_20 : seek pp178 20 = p178_20 := sk178_20
