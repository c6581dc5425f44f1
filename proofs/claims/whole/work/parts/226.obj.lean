/-! printed by wip/gen74.py: joined -/
theorem all_td {α : Type} {p : α → Bool} {l : List α} {k n k' : Nat} (e : k + n = k') (h1 : ((l.drop k).take n).all p = true) (h2 : (l.drop k').all p = true) : (l.drop k).all p = true := by
  subst e
  rw [← List.take_append_drop n (l.drop k), List.all_append, h1, List.drop_drop, h2]
  rfl
theorem all_d0 {α : Type} {p : α → Bool} {l : List α} (h : (l.drop 0).all p = true) : l.all p = true := h
theorem all_c {α : Type} {p : α → Bool} {a : α} {l : List α} (h1 : p a = true) (h2 : l.all p = true) : (a :: l).all p = true := by
  rw [List.all_cons, h1, h2]
  rfl
def okl (w : Nat × List (Nat × AI × Nat)) : Bool := w.2.all (fun q => okb w.1 q.1 q.2.1 q.2.2)
theorem oc1062_160 : (cdl1062.drop 160).all (fun q => okb 1062 q.1 q.2.1 q.2.2) = true := all_td (l := cdl1062) (k := 160) (n := 80) (k' := 240) (by decide) ob1062_160 ob1062_240
theorem oc1062_80 : (cdl1062.drop 80).all (fun q => okb 1062 q.1 q.2.1 q.2.2) = true := all_td (l := cdl1062) (k := 80) (n := 80) (k' := 160) (by decide) ob1062_80 oc1062_160
theorem oc1062_0 : (cdl1062.drop 0).all (fun q => okb 1062 q.1 q.2.1 q.2.2) = true := all_td (l := cdl1062) (k := 0) (n := 80) (k' := 80) (by decide) ob1062_0 oc1062_80
theorem ob1062 : cdl1062.all (fun q => okb 1062 q.1 q.2.1 q.2.2) = true := all_d0 oc1062_0
theorem oc1074_80 : (cdl1074.drop 80).all (fun q => okb 1074 q.1 q.2.1 q.2.2) = true := all_td (l := cdl1074) (k := 80) (n := 80) (k' := 160) (by decide) ob1074_80 ob1074_160
theorem oc1074_0 : (cdl1074.drop 0).all (fun q => okb 1074 q.1 q.2.1 q.2.2) = true := all_td (l := cdl1074) (k := 0) (n := 80) (k' := 80) (by decide) ob1074_0 oc1074_80
theorem ob1074 : cdl1074.all (fun q => okb 1074 q.1 q.2.1 q.2.2) = true := all_d0 oc1074_0
theorem oc1100_960 : (cdl1100.drop 960).all (fun q => okb 1100 q.1 q.2.1 q.2.2) = true := all_td (l := cdl1100) (k := 960) (n := 80) (k' := 1040) (by decide) ob1100_960 ob1100_1040
theorem oc1100_880 : (cdl1100.drop 880).all (fun q => okb 1100 q.1 q.2.1 q.2.2) = true := all_td (l := cdl1100) (k := 880) (n := 80) (k' := 960) (by decide) ob1100_880 oc1100_960
theorem oc1100_800 : (cdl1100.drop 800).all (fun q => okb 1100 q.1 q.2.1 q.2.2) = true := all_td (l := cdl1100) (k := 800) (n := 80) (k' := 880) (by decide) ob1100_800 oc1100_880
theorem oc1100_720 : (cdl1100.drop 720).all (fun q => okb 1100 q.1 q.2.1 q.2.2) = true := all_td (l := cdl1100) (k := 720) (n := 80) (k' := 800) (by decide) ob1100_720 oc1100_800
theorem oc1100_640 : (cdl1100.drop 640).all (fun q => okb 1100 q.1 q.2.1 q.2.2) = true := all_td (l := cdl1100) (k := 640) (n := 80) (k' := 720) (by decide) ob1100_640 oc1100_720
theorem oc1100_560 : (cdl1100.drop 560).all (fun q => okb 1100 q.1 q.2.1 q.2.2) = true := all_td (l := cdl1100) (k := 560) (n := 80) (k' := 640) (by decide) ob1100_560 oc1100_640
theorem oc1100_480 : (cdl1100.drop 480).all (fun q => okb 1100 q.1 q.2.1 q.2.2) = true := all_td (l := cdl1100) (k := 480) (n := 80) (k' := 560) (by decide) ob1100_480 oc1100_560
theorem oc1100_400 : (cdl1100.drop 400).all (fun q => okb 1100 q.1 q.2.1 q.2.2) = true := all_td (l := cdl1100) (k := 400) (n := 80) (k' := 480) (by decide) ob1100_400 oc1100_480
theorem oc1100_320 : (cdl1100.drop 320).all (fun q => okb 1100 q.1 q.2.1 q.2.2) = true := all_td (l := cdl1100) (k := 320) (n := 80) (k' := 400) (by decide) ob1100_320 oc1100_400
theorem oc1100_240 : (cdl1100.drop 240).all (fun q => okb 1100 q.1 q.2.1 q.2.2) = true := all_td (l := cdl1100) (k := 240) (n := 80) (k' := 320) (by decide) ob1100_240 oc1100_320
theorem oc1100_160 : (cdl1100.drop 160).all (fun q => okb 1100 q.1 q.2.1 q.2.2) = true := all_td (l := cdl1100) (k := 160) (n := 80) (k' := 240) (by decide) ob1100_160 oc1100_240
theorem oc1100_80 : (cdl1100.drop 80).all (fun q => okb 1100 q.1 q.2.1 q.2.2) = true := all_td (l := cdl1100) (k := 80) (n := 80) (k' := 160) (by decide) ob1100_80 oc1100_160
theorem oc1100_0 : (cdl1100.drop 0).all (fun q => okb 1100 q.1 q.2.1 q.2.2) = true := all_td (l := cdl1100) (k := 0) (n := 80) (k' := 80) (by decide) ob1100_0 oc1100_80
theorem ob1100 : cdl1100.all (fun q => okb 1100 q.1 q.2.1 q.2.2) = true := all_d0 oc1100_0
theorem oq900 : okl (900, cdl900) = true := ob900
theorem oq901 : okl (901, cdl901) = true := ob901
theorem oq902 : okl (902, cdl902) = true := ob902
theorem oq903 : okl (903, cdl903) = true := ob903
theorem oq904 : okl (904, cdl904) = true := ob904
theorem oq905 : okl (905, cdl905) = true := ob905
theorem oq906 : okl (906, cdl906) = true := ob906
theorem oq907 : okl (907, cdl907) = true := ob907
theorem oq908 : okl (908, cdl908) = true := ob908
theorem oq909 : okl (909, cdl909) = true := ob909
theorem oq910 : okl (910, cdl910) = true := ob910
theorem oq911 : okl (911, cdl911) = true := ob911
theorem oq912 : okl (912, cdl912) = true := ob912
theorem oq913 : okl (913, cdl913) = true := ob913
theorem oq914 : okl (914, cdl914) = true := ob914
theorem oq915 : okl (915, cdl915) = true := ob915
theorem oq916 : okl (916, cdl916) = true := ob916
theorem oq917 : okl (917, cdl917) = true := ob917
theorem oq918 : okl (918, cdl918) = true := ob918
theorem oq919 : okl (919, cdl919) = true := ob919
theorem oq920 : okl (920, cdl920) = true := ob920
theorem oq921 : okl (921, cdl921) = true := ob921
theorem oq922 : okl (922, cdl922) = true := ob922
theorem oq923 : okl (923, cdl923) = true := ob923
theorem oq924 : okl (924, cdl924) = true := ob924
theorem oq925 : okl (925, cdl925) = true := ob925
theorem oq926 : okl (926, cdl926) = true := ob926
theorem oq927 : okl (927, cdl927) = true := ob927
theorem oq928 : okl (928, cdl928) = true := ob928
theorem oq929 : okl (929, cdl929) = true := ob929
theorem oq930 : okl (930, cdl930) = true := ob930
theorem oq931 : okl (931, cdl931) = true := ob931
theorem oq932 : okl (932, cdl932) = true := ob932
theorem oq933 : okl (933, cdl933) = true := ob933
theorem oq934 : okl (934, cdl934) = true := ob934
theorem oq935 : okl (935, cdl935) = true := ob935
theorem oq936 : okl (936, cdl936) = true := ob936
theorem oq937 : okl (937, cdl937) = true := ob937
theorem oq938 : okl (938, cdl938) = true := ob938
theorem oq939 : okl (939, cdl939) = true := ob939
theorem oq940 : okl (940, cdl940) = true := ob940
theorem oq941 : okl (941, cdl941) = true := ob941
theorem oq942 : okl (942, cdl942) = true := ob942
theorem oq943 : okl (943, cdl943) = true := ob943
theorem oq944 : okl (944, cdl944) = true := ob944
theorem oq945 : okl (945, cdl945) = true := ob945
theorem oq946 : okl (946, cdl946) = true := ob946
theorem oq947 : okl (947, cdl947) = true := ob947
theorem oq948 : okl (948, cdl948) = true := ob948
theorem oq949 : okl (949, cdl949) = true := ob949
theorem oq950 : okl (950, cdl950) = true := ob950
theorem oq951 : okl (951, cdl951) = true := ob951
theorem oq952 : okl (952, cdl952) = true := ob952
theorem oq953 : okl (953, cdl953) = true := ob953
theorem oq954 : okl (954, cdl954) = true := ob954
theorem oq955 : okl (955, cdl955) = true := ob955
theorem oq956 : okl (956, cdl956) = true := ob956
theorem oq957 : okl (957, cdl957) = true := ob957
theorem oq958 : okl (958, cdl958) = true := ob958
theorem oq959 : okl (959, cdl959) = true := ob959
theorem oq960 : okl (960, cdl960) = true := ob960
theorem oq961 : okl (961, cdl961) = true := ob961
theorem oq962 : okl (962, cdl962) = true := ob962
theorem oq963 : okl (963, cdl963) = true := ob963
theorem oq964 : okl (964, cdl964) = true := ob964
theorem oq1000 : okl (1000, cdl1000) = true := ob1000
theorem oq1001 : okl (1001, cdl1001) = true := ob1001
theorem oq1002 : okl (1002, cdl1002) = true := ob1002
theorem oq1003 : okl (1003, cdl1003) = true := ob1003
theorem oq1004 : okl (1004, cdl1004) = true := ob1004
theorem oq1005 : okl (1005, cdl1005) = true := ob1005
theorem oq1006 : okl (1006, cdl1006) = true := ob1006
theorem oq1007 : okl (1007, cdl1007) = true := ob1007
theorem oq1008 : okl (1008, cdl1008) = true := ob1008
theorem oq1009 : okl (1009, cdl1009) = true := ob1009
theorem oq1010 : okl (1010, cdl1010) = true := ob1010
theorem oq1011 : okl (1011, cdl1011) = true := ob1011
theorem oq1012 : okl (1012, cdl1012) = true := ob1012
theorem oq1013 : okl (1013, cdl1013) = true := ob1013
theorem oq1014 : okl (1014, cdl1014) = true := ob1014
theorem oq1015 : okl (1015, cdl1015) = true := ob1015
theorem oq1016 : okl (1016, cdl1016) = true := ob1016
theorem oq1017 : okl (1017, cdl1017) = true := ob1017
theorem oq1018 : okl (1018, cdl1018) = true := ob1018
theorem oq1019 : okl (1019, cdl1019) = true := ob1019
theorem oq1020 : okl (1020, cdl1020) = true := ob1020
theorem oq1021 : okl (1021, cdl1021) = true := ob1021
theorem oq1022 : okl (1022, cdl1022) = true := ob1022
theorem oq1023 : okl (1023, cdl1023) = true := ob1023
theorem oq1024 : okl (1024, cdl1024) = true := ob1024
theorem oq1025 : okl (1025, cdl1025) = true := ob1025
theorem oq1026 : okl (1026, cdl1026) = true := ob1026
theorem oq1027 : okl (1027, cdl1027) = true := ob1027
theorem oq1028 : okl (1028, cdl1028) = true := ob1028
theorem oq1029 : okl (1029, cdl1029) = true := ob1029
theorem oq1030 : okl (1030, cdl1030) = true := ob1030
theorem oq1031 : okl (1031, cdl1031) = true := ob1031
theorem oq1032 : okl (1032, cdl1032) = true := ob1032
theorem oq1033 : okl (1033, cdl1033) = true := ob1033
theorem oq1034 : okl (1034, cdl1034) = true := ob1034
theorem oq1035 : okl (1035, cdl1035) = true := ob1035
theorem oq1036 : okl (1036, cdl1036) = true := ob1036
theorem oq1037 : okl (1037, cdl1037) = true := ob1037
theorem oq1038 : okl (1038, cdl1038) = true := ob1038
theorem oq1039 : okl (1039, cdl1039) = true := ob1039
theorem oq1040 : okl (1040, cdl1040) = true := ob1040
theorem oq1041 : okl (1041, cdl1041) = true := ob1041
theorem oq1042 : okl (1042, cdl1042) = true := ob1042
theorem oq1043 : okl (1043, cdl1043) = true := ob1043
theorem oq1044 : okl (1044, cdl1044) = true := ob1044
theorem oq1045 : okl (1045, cdl1045) = true := ob1045
theorem oq1046 : okl (1046, cdl1046) = true := ob1046
theorem oq1047 : okl (1047, cdl1047) = true := ob1047
theorem oq1048 : okl (1048, cdl1048) = true := ob1048
theorem oq1049 : okl (1049, cdl1049) = true := ob1049
theorem oq1050 : okl (1050, cdl1050) = true := ob1050
theorem oq1051 : okl (1051, cdl1051) = true := ob1051
theorem oq1052 : okl (1052, cdl1052) = true := ob1052
theorem oq1053 : okl (1053, cdl1053) = true := ob1053
theorem oq1054 : okl (1054, cdl1054) = true := ob1054
theorem oq1055 : okl (1055, cdl1055) = true := ob1055
theorem oq1056 : okl (1056, cdl1056) = true := ob1056
theorem oq1057 : okl (1057, cdl1057) = true := ob1057
theorem oq1058 : okl (1058, cdl1058) = true := ob1058
theorem oq1059 : okl (1059, cdl1059) = true := ob1059
theorem oq1060 : okl (1060, cdl1060) = true := ob1060
theorem oq1061 : okl (1061, cdl1061) = true := ob1061
theorem oq1062 : okl (1062, cdl1062) = true := ob1062
theorem oq1063 : okl (1063, cdl1063) = true := ob1063
theorem oq1064 : okl (1064, cdl1064) = true := ob1064
theorem oq1065 : okl (1065, cdl1065) = true := ob1065
theorem oq1066 : okl (1066, cdl1066) = true := ob1066
theorem oq1067 : okl (1067, cdl1067) = true := ob1067
theorem oq1068 : okl (1068, cdl1068) = true := ob1068
theorem oq1069 : okl (1069, cdl1069) = true := ob1069
theorem oq1070 : okl (1070, cdl1070) = true := ob1070
theorem oq1071 : okl (1071, cdl1071) = true := ob1071
theorem oq1072 : okl (1072, cdl1072) = true := ob1072
theorem oq1073 : okl (1073, cdl1073) = true := ob1073
theorem oq1074 : okl (1074, cdl1074) = true := ob1074
theorem oq1075 : okl (1075, cdl1075) = true := ob1075
theorem oq1076 : okl (1076, cdl1076) = true := ob1076
theorem oq1077 : okl (1077, cdl1077) = true := ob1077
theorem oq1078 : okl (1078, cdl1078) = true := ob1078
theorem oq1079 : okl (1079, cdl1079) = true := ob1079
theorem oq1080 : okl (1080, cdl1080) = true := ob1080
theorem oq1081 : okl (1081, cdl1081) = true := ob1081
theorem oq1082 : okl (1082, cdl1082) = true := ob1082
theorem oq1083 : okl (1083, cdl1083) = true := ob1083
theorem oq1084 : okl (1084, cdl1084) = true := ob1084
theorem oq1085 : okl (1085, cdl1085) = true := ob1085
theorem oq1086 : okl (1086, cdl1086) = true := ob1086
theorem oq1087 : okl (1087, cdl1087) = true := ob1087
theorem oq1088 : okl (1088, cdl1088) = true := ob1088
theorem oq1089 : okl (1089, cdl1089) = true := ob1089
theorem oq1090 : okl (1090, cdl1090) = true := ob1090
theorem oq0 : okl (0, cdl0) = true := ob0
theorem oq1 : okl (1, cdl1) = true := ob1
theorem oq2 : okl (2, cdl2) = true := ob2
theorem oq3 : okl (3, cdl3) = true := ob3
theorem oq4 : okl (4, cdl4) = true := ob4
theorem oq5 : okl (5, cdl5) = true := ob5
theorem oq6 : okl (6, cdl6) = true := ob6
theorem oq7 : okl (7, cdl7) = true := ob7
theorem oq8 : okl (8, cdl8) = true := ob8
theorem oq9 : okl (9, cdl9) = true := ob9
theorem oq10 : okl (10, cdl10) = true := ob10
theorem oq11 : okl (11, cdl11) = true := ob11
theorem oq100 : okl (100, cdl100) = true := ob100
theorem oq101 : okl (101, cdl101) = true := ob101
theorem oq102 : okl (102, cdl102) = true := ob102
theorem oq103 : okl (103, cdl103) = true := ob103
theorem oq104 : okl (104, cdl104) = true := ob104
theorem oq105 : okl (105, cdl105) = true := ob105
theorem oq200 : okl (200, cdl200) = true := ob200
theorem oq201 : okl (201, cdl201) = true := ob201
theorem oq202 : okl (202, cdl202) = true := ob202
theorem oq203 : okl (203, cdl203) = true := ob203
theorem oq204 : okl (204, cdl204) = true := ob204
theorem oq205 : okl (205, cdl205) = true := ob205
theorem oq206 : okl (206, cdl206) = true := ob206
theorem oq207 : okl (207, cdl207) = true := ob207
theorem oq300 : okl (300, cdl300) = true := ob300
theorem oq301 : okl (301, cdl301) = true := ob301
theorem oq302 : okl (302, cdl302) = true := ob302
theorem oq303 : okl (303, cdl303) = true := ob303
theorem oq304 : okl (304, cdl304) = true := ob304
theorem oq305 : okl (305, cdl305) = true := ob305
theorem oq306 : okl (306, cdl306) = true := ob306
theorem oq307 : okl (307, cdl307) = true := ob307
theorem oq308 : okl (308, cdl308) = true := ob308
theorem oq309 : okl (309, cdl309) = true := ob309
theorem oq310 : okl (310, cdl310) = true := ob310
theorem oq311 : okl (311, cdl311) = true := ob311
theorem oq312 : okl (312, cdl312) = true := ob312
theorem oq313 : okl (313, cdl313) = true := ob313
theorem oq314 : okl (314, cdl314) = true := ob314
theorem oq315 : okl (315, cdl315) = true := ob315
theorem oq400 : okl (400, cdl400) = true := ob400
theorem oq401 : okl (401, cdl401) = true := ob401
theorem oq402 : okl (402, cdl402) = true := ob402
theorem oq403 : okl (403, cdl403) = true := ob403
theorem oq404 : okl (404, cdl404) = true := ob404
theorem oq405 : okl (405, cdl405) = true := ob405
theorem oq406 : okl (406, cdl406) = true := ob406
theorem oq500 : okl (500, cdl500) = true := ob500
theorem oq501 : okl (501, cdl501) = true := ob501
theorem oq502 : okl (502, cdl502) = true := ob502
theorem oq503 : okl (503, cdl503) = true := ob503
theorem oq504 : okl (504, cdl504) = true := ob504
theorem oq505 : okl (505, cdl505) = true := ob505
theorem oq506 : okl (506, cdl506) = true := ob506
theorem oq507 : okl (507, cdl507) = true := ob507
theorem oq600 : okl (600, cdl600) = true := ob600
theorem oq601 : okl (601, cdl601) = true := ob601
theorem oq602 : okl (602, cdl602) = true := ob602
theorem oq603 : okl (603, cdl603) = true := ob603
theorem oq604 : okl (604, cdl604) = true := ob604
theorem oq605 : okl (605, cdl605) = true := ob605
theorem oq606 : okl (606, cdl606) = true := ob606
theorem oq607 : okl (607, cdl607) = true := ob607
theorem oq608 : okl (608, cdl608) = true := ob608
theorem oq609 : okl (609, cdl609) = true := ob609
theorem oq610 : okl (610, cdl610) = true := ob610
theorem oq700 : okl (700, cdl700) = true := ob700
theorem oq701 : okl (701, cdl701) = true := ob701
theorem oq702 : okl (702, cdl702) = true := ob702
theorem oq703 : okl (703, cdl703) = true := ob703
theorem oq704 : okl (704, cdl704) = true := ob704
theorem oq800 : okl (800, cdl800) = true := ob800
theorem oq801 : okl (801, cdl801) = true := ob801
theorem oq802 : okl (802, cdl802) = true := ob802
theorem oq803 : okl (803, cdl803) = true := ob803
theorem oq1100 : okl (1100, cdl1100) = true := ob1100
theorem oq1200 : okl (1200, cdl1200) = true := ob1200
theorem oq1300 : okl (1300, cdl1300) = true := ob1300
theorem oq1301 : okl (1301, cdl1301) = true := ob1301
set_option maxRecDepth 100000 in
theorem ob_all : cdt.all okl = true := by
  unfold cdt
  exact all_c oq900 (all_c oq901 (all_c oq902 (all_c oq903 (all_c oq904 (all_c oq905 (all_c oq906 (all_c oq907 (all_c oq908 (all_c oq909 (all_c oq910 (all_c oq911 (all_c oq912 (all_c oq913 (all_c oq914 (all_c oq915 (all_c oq916 (all_c oq917 (all_c oq918 (all_c oq919 (all_c oq920 (all_c oq921 (all_c oq922 (all_c oq923 (all_c oq924 (all_c oq925 (all_c oq926 (all_c oq927 (all_c oq928 (all_c oq929 (all_c oq930 (all_c oq931 (all_c oq932 (all_c oq933 (all_c oq934 (all_c oq935 (all_c oq936 (all_c oq937 (all_c oq938 (all_c oq939 (all_c oq940 (all_c oq941 (all_c oq942 (all_c oq943 (all_c oq944 (all_c oq945 (all_c oq946 (all_c oq947 (all_c oq948 (all_c oq949 (all_c oq950 (all_c oq951 (all_c oq952 (all_c oq953 (all_c oq954 (all_c oq955 (all_c oq956 (all_c oq957 (all_c oq958 (all_c oq959 (all_c oq960 (all_c oq961 (all_c oq962 (all_c oq963 (all_c oq964 (all_c oq1000 (all_c oq1001 (all_c oq1002 (all_c oq1003 (all_c oq1004 (all_c oq1005 (all_c oq1006 (all_c oq1007 (all_c oq1008 (all_c oq1009 (all_c oq1010 (all_c oq1011 (all_c oq1012 (all_c oq1013 (all_c oq1014 (all_c oq1015 (all_c oq1016 (all_c oq1017 (all_c oq1018 (all_c oq1019 (all_c oq1020 (all_c oq1021 (all_c oq1022 (all_c oq1023 (all_c oq1024 (all_c oq1025 (all_c oq1026 (all_c oq1027 (all_c oq1028 (all_c oq1029 (all_c oq1030 (all_c oq1031 (all_c oq1032 (all_c oq1033 (all_c oq1034 (all_c oq1035 (all_c oq1036 (all_c oq1037 (all_c oq1038 (all_c oq1039 (all_c oq1040 (all_c oq1041 (all_c oq1042 (all_c oq1043 (all_c oq1044 (all_c oq1045 (all_c oq1046 (all_c oq1047 (all_c oq1048 (all_c oq1049 (all_c oq1050 (all_c oq1051 (all_c oq1052 (all_c oq1053 (all_c oq1054 (all_c oq1055 (all_c oq1056 (all_c oq1057 (all_c oq1058 (all_c oq1059 (all_c oq1060 (all_c oq1061 (all_c oq1062 (all_c oq1063 (all_c oq1064 (all_c oq1065 (all_c oq1066 (all_c oq1067 (all_c oq1068 (all_c oq1069 (all_c oq1070 (all_c oq1071 (all_c oq1072 (all_c oq1073 (all_c oq1074 (all_c oq1075 (all_c oq1076 (all_c oq1077 (all_c oq1078 (all_c oq1079 (all_c oq1080 (all_c oq1081 (all_c oq1082 (all_c oq1083 (all_c oq1084 (all_c oq1085 (all_c oq1086 (all_c oq1087 (all_c oq1088 (all_c oq1089 (all_c oq1090 (all_c oq0 (all_c oq1 (all_c oq2 (all_c oq3 (all_c oq4 (all_c oq5 (all_c oq6 (all_c oq7 (all_c oq8 (all_c oq9 (all_c oq10 (all_c oq11 (all_c oq100 (all_c oq101 (all_c oq102 (all_c oq103 (all_c oq104 (all_c oq105 (all_c oq200 (all_c oq201 (all_c oq202 (all_c oq203 (all_c oq204 (all_c oq205 (all_c oq206 (all_c oq207 (all_c oq300 (all_c oq301 (all_c oq302 (all_c oq303 (all_c oq304 (all_c oq305 (all_c oq306 (all_c oq307 (all_c oq308 (all_c oq309 (all_c oq310 (all_c oq311 (all_c oq312 (all_c oq313 (all_c oq314 (all_c oq315 (all_c oq400 (all_c oq401 (all_c oq402 (all_c oq403 (all_c oq404 (all_c oq405 (all_c oq406 (all_c oq500 (all_c oq501 (all_c oq502 (all_c oq503 (all_c oq504 (all_c oq505 (all_c oq506 (all_c oq507 (all_c oq600 (all_c oq601 (all_c oq602 (all_c oq603 (all_c oq604 (all_c oq605 (all_c oq606 (all_c oq607 (all_c oq608 (all_c oq609 (all_c oq610 (all_c oq700 (all_c oq701 (all_c oq702 (all_c oq703 (all_c oq704 (all_c oq800 (all_c oq801 (all_c oq802 (all_c oq803 (all_c oq1100 (all_c oq1200 (all_c oq1300 (all_c oq1301 rfl))))))))))))))))))))))))))))))))))))))))))))))))))))))))))))))))))))))))))))))))))))))))))))))))))))))))))))))))))))))))))))))))))))))))))))))))))))))))))))))))))))))))))))))))))))))))))))))))))))))))))))))))))))))))))))))))))))))))))))
