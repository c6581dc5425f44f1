/-! printed by wip/gen74.py: every method's abstract code says what its bytes say -/
theorem all_td {α : Type} {p : α → Bool} {l : List α} {k n : Nat} (h1 : ((l.drop k).take n).all p = true) (h2 : (l.drop (k + n)).all p = true) : (l.drop k).all p = true := by
  rw [← List.take_append_drop n (l.drop k), List.all_append, h1, List.drop_drop, h2]
  rfl
theorem ob900 : cdl900.all (fun q => okb 900 q.1 q.2.1 q.2.2) = true := by decide +kernel
theorem ob901 : cdl901.all (fun q => okb 901 q.1 q.2.1 q.2.2) = true := by decide +kernel
theorem ob902 : cdl902.all (fun q => okb 902 q.1 q.2.1 q.2.2) = true := by decide +kernel
theorem ob903 : cdl903.all (fun q => okb 903 q.1 q.2.1 q.2.2) = true := by decide +kernel
theorem ob904 : cdl904.all (fun q => okb 904 q.1 q.2.1 q.2.2) = true := by decide +kernel
theorem ob905 : cdl905.all (fun q => okb 905 q.1 q.2.1 q.2.2) = true := by decide +kernel
theorem ob906 : cdl906.all (fun q => okb 906 q.1 q.2.1 q.2.2) = true := by decide +kernel
theorem ob907 : cdl907.all (fun q => okb 907 q.1 q.2.1 q.2.2) = true := by decide +kernel
theorem ob908 : cdl908.all (fun q => okb 908 q.1 q.2.1 q.2.2) = true := by decide +kernel
theorem ob909 : cdl909.all (fun q => okb 909 q.1 q.2.1 q.2.2) = true := by decide +kernel
theorem ob910 : cdl910.all (fun q => okb 910 q.1 q.2.1 q.2.2) = true := by decide +kernel
theorem ob911 : cdl911.all (fun q => okb 911 q.1 q.2.1 q.2.2) = true := by decide +kernel
theorem ob912 : cdl912.all (fun q => okb 912 q.1 q.2.1 q.2.2) = true := by decide +kernel
theorem ob913 : cdl913.all (fun q => okb 913 q.1 q.2.1 q.2.2) = true := by decide +kernel
theorem ob914 : cdl914.all (fun q => okb 914 q.1 q.2.1 q.2.2) = true := by decide +kernel
theorem ob915 : cdl915.all (fun q => okb 915 q.1 q.2.1 q.2.2) = true := by decide +kernel
theorem ob916 : cdl916.all (fun q => okb 916 q.1 q.2.1 q.2.2) = true := by decide +kernel
theorem ob917 : cdl917.all (fun q => okb 917 q.1 q.2.1 q.2.2) = true := by decide +kernel
theorem ob918 : cdl918.all (fun q => okb 918 q.1 q.2.1 q.2.2) = true := by decide +kernel
theorem ob919 : cdl919.all (fun q => okb 919 q.1 q.2.1 q.2.2) = true := by decide +kernel
theorem ob920 : cdl920.all (fun q => okb 920 q.1 q.2.1 q.2.2) = true := by decide +kernel
theorem ob921 : cdl921.all (fun q => okb 921 q.1 q.2.1 q.2.2) = true := by decide +kernel
theorem ob922 : cdl922.all (fun q => okb 922 q.1 q.2.1 q.2.2) = true := by decide +kernel
theorem ob923 : cdl923.all (fun q => okb 923 q.1 q.2.1 q.2.2) = true := by decide +kernel
theorem ob924 : cdl924.all (fun q => okb 924 q.1 q.2.1 q.2.2) = true := by decide +kernel
theorem ob925 : cdl925.all (fun q => okb 925 q.1 q.2.1 q.2.2) = true := by decide +kernel
theorem ob926 : cdl926.all (fun q => okb 926 q.1 q.2.1 q.2.2) = true := by decide +kernel
theorem ob927 : cdl927.all (fun q => okb 927 q.1 q.2.1 q.2.2) = true := by decide +kernel
theorem ob928 : cdl928.all (fun q => okb 928 q.1 q.2.1 q.2.2) = true := by decide +kernel
theorem ob929 : cdl929.all (fun q => okb 929 q.1 q.2.1 q.2.2) = true := by decide +kernel
theorem ob930 : cdl930.all (fun q => okb 930 q.1 q.2.1 q.2.2) = true := by decide +kernel
theorem ob931 : cdl931.all (fun q => okb 931 q.1 q.2.1 q.2.2) = true := by decide +kernel
theorem ob932 : cdl932.all (fun q => okb 932 q.1 q.2.1 q.2.2) = true := by decide +kernel
theorem ob933 : cdl933.all (fun q => okb 933 q.1 q.2.1 q.2.2) = true := by decide +kernel
theorem ob934 : cdl934.all (fun q => okb 934 q.1 q.2.1 q.2.2) = true := by decide +kernel
theorem ob935 : cdl935.all (fun q => okb 935 q.1 q.2.1 q.2.2) = true := by decide +kernel
theorem ob936 : cdl936.all (fun q => okb 936 q.1 q.2.1 q.2.2) = true := by decide +kernel
theorem ob937 : cdl937.all (fun q => okb 937 q.1 q.2.1 q.2.2) = true := by decide +kernel
theorem ob938 : cdl938.all (fun q => okb 938 q.1 q.2.1 q.2.2) = true := by decide +kernel
theorem ob939 : cdl939.all (fun q => okb 939 q.1 q.2.1 q.2.2) = true := by decide +kernel
theorem ob940 : cdl940.all (fun q => okb 940 q.1 q.2.1 q.2.2) = true := by decide +kernel
theorem ob941 : cdl941.all (fun q => okb 941 q.1 q.2.1 q.2.2) = true := by decide +kernel
theorem ob942 : cdl942.all (fun q => okb 942 q.1 q.2.1 q.2.2) = true := by decide +kernel
theorem ob943 : cdl943.all (fun q => okb 943 q.1 q.2.1 q.2.2) = true := by decide +kernel
theorem ob944 : cdl944.all (fun q => okb 944 q.1 q.2.1 q.2.2) = true := by decide +kernel
theorem ob945 : cdl945.all (fun q => okb 945 q.1 q.2.1 q.2.2) = true := by decide +kernel
theorem ob946 : cdl946.all (fun q => okb 946 q.1 q.2.1 q.2.2) = true := by decide +kernel
theorem ob947 : cdl947.all (fun q => okb 947 q.1 q.2.1 q.2.2) = true := by decide +kernel
theorem ob948 : cdl948.all (fun q => okb 948 q.1 q.2.1 q.2.2) = true := by decide +kernel
theorem ob949 : cdl949.all (fun q => okb 949 q.1 q.2.1 q.2.2) = true := by decide +kernel
theorem ob950 : cdl950.all (fun q => okb 950 q.1 q.2.1 q.2.2) = true := by decide +kernel
theorem ob951 : cdl951.all (fun q => okb 951 q.1 q.2.1 q.2.2) = true := by decide +kernel
theorem ob952 : cdl952.all (fun q => okb 952 q.1 q.2.1 q.2.2) = true := by decide +kernel
theorem ob953 : cdl953.all (fun q => okb 953 q.1 q.2.1 q.2.2) = true := by decide +kernel
theorem ob954 : cdl954.all (fun q => okb 954 q.1 q.2.1 q.2.2) = true := by decide +kernel
theorem ob955 : cdl955.all (fun q => okb 955 q.1 q.2.1 q.2.2) = true := by decide +kernel
theorem ob956 : cdl956.all (fun q => okb 956 q.1 q.2.1 q.2.2) = true := by decide +kernel
theorem ob957 : cdl957.all (fun q => okb 957 q.1 q.2.1 q.2.2) = true := by decide +kernel
theorem ob958 : cdl958.all (fun q => okb 958 q.1 q.2.1 q.2.2) = true := by decide +kernel
theorem ob959 : cdl959.all (fun q => okb 959 q.1 q.2.1 q.2.2) = true := by decide +kernel
theorem ob960 : cdl960.all (fun q => okb 960 q.1 q.2.1 q.2.2) = true := by decide +kernel
theorem ob961 : cdl961.all (fun q => okb 961 q.1 q.2.1 q.2.2) = true := by decide +kernel
theorem ob962 : cdl962.all (fun q => okb 962 q.1 q.2.1 q.2.2) = true := by decide +kernel
theorem ob963 : cdl963.all (fun q => okb 963 q.1 q.2.1 q.2.2) = true := by decide +kernel
theorem ob964 : cdl964.all (fun q => okb 964 q.1 q.2.1 q.2.2) = true := by decide +kernel
theorem ob1000 : cdl1000.all (fun q => okb 1000 q.1 q.2.1 q.2.2) = true := by decide +kernel
theorem ob1001 : cdl1001.all (fun q => okb 1001 q.1 q.2.1 q.2.2) = true := by decide +kernel
theorem ob1002 : cdl1002.all (fun q => okb 1002 q.1 q.2.1 q.2.2) = true := by decide +kernel
theorem ob1003 : cdl1003.all (fun q => okb 1003 q.1 q.2.1 q.2.2) = true := by decide +kernel
theorem ob1004 : cdl1004.all (fun q => okb 1004 q.1 q.2.1 q.2.2) = true := by decide +kernel
theorem ob1005 : cdl1005.all (fun q => okb 1005 q.1 q.2.1 q.2.2) = true := by decide +kernel
theorem ob1006 : cdl1006.all (fun q => okb 1006 q.1 q.2.1 q.2.2) = true := by decide +kernel
theorem ob1007 : cdl1007.all (fun q => okb 1007 q.1 q.2.1 q.2.2) = true := by decide +kernel
theorem ob1008 : cdl1008.all (fun q => okb 1008 q.1 q.2.1 q.2.2) = true := by decide +kernel
theorem ob1009 : cdl1009.all (fun q => okb 1009 q.1 q.2.1 q.2.2) = true := by decide +kernel
theorem ob1010 : cdl1010.all (fun q => okb 1010 q.1 q.2.1 q.2.2) = true := by decide +kernel
theorem ob1011 : cdl1011.all (fun q => okb 1011 q.1 q.2.1 q.2.2) = true := by decide +kernel
theorem ob1012 : cdl1012.all (fun q => okb 1012 q.1 q.2.1 q.2.2) = true := by decide +kernel
theorem ob1013 : cdl1013.all (fun q => okb 1013 q.1 q.2.1 q.2.2) = true := by decide +kernel
theorem ob1014 : cdl1014.all (fun q => okb 1014 q.1 q.2.1 q.2.2) = true := by decide +kernel
theorem ob1015 : cdl1015.all (fun q => okb 1015 q.1 q.2.1 q.2.2) = true := by decide +kernel
theorem ob1016 : cdl1016.all (fun q => okb 1016 q.1 q.2.1 q.2.2) = true := by decide +kernel
theorem ob1017 : cdl1017.all (fun q => okb 1017 q.1 q.2.1 q.2.2) = true := by decide +kernel
theorem ob1018 : cdl1018.all (fun q => okb 1018 q.1 q.2.1 q.2.2) = true := by decide +kernel
theorem ob1019 : cdl1019.all (fun q => okb 1019 q.1 q.2.1 q.2.2) = true := by decide +kernel
theorem ob1020 : cdl1020.all (fun q => okb 1020 q.1 q.2.1 q.2.2) = true := by decide +kernel
theorem ob1021 : cdl1021.all (fun q => okb 1021 q.1 q.2.1 q.2.2) = true := by decide +kernel
theorem ob1022 : cdl1022.all (fun q => okb 1022 q.1 q.2.1 q.2.2) = true := by decide +kernel
theorem ob1023 : cdl1023.all (fun q => okb 1023 q.1 q.2.1 q.2.2) = true := by decide +kernel
theorem ob1024 : cdl1024.all (fun q => okb 1024 q.1 q.2.1 q.2.2) = true := by decide +kernel
theorem ob1025 : cdl1025.all (fun q => okb 1025 q.1 q.2.1 q.2.2) = true := by decide +kernel
theorem ob1026 : cdl1026.all (fun q => okb 1026 q.1 q.2.1 q.2.2) = true := by decide +kernel
theorem ob1027 : cdl1027.all (fun q => okb 1027 q.1 q.2.1 q.2.2) = true := by decide +kernel
theorem ob1028 : cdl1028.all (fun q => okb 1028 q.1 q.2.1 q.2.2) = true := by decide +kernel
theorem ob1029 : cdl1029.all (fun q => okb 1029 q.1 q.2.1 q.2.2) = true := by decide +kernel
theorem ob1030 : cdl1030.all (fun q => okb 1030 q.1 q.2.1 q.2.2) = true := by decide +kernel
theorem ob1031 : cdl1031.all (fun q => okb 1031 q.1 q.2.1 q.2.2) = true := by decide +kernel
theorem ob1032 : cdl1032.all (fun q => okb 1032 q.1 q.2.1 q.2.2) = true := by decide +kernel
theorem ob1033 : cdl1033.all (fun q => okb 1033 q.1 q.2.1 q.2.2) = true := by decide +kernel
theorem ob1034 : cdl1034.all (fun q => okb 1034 q.1 q.2.1 q.2.2) = true := by decide +kernel
theorem ob1035 : cdl1035.all (fun q => okb 1035 q.1 q.2.1 q.2.2) = true := by decide +kernel
theorem ob1036 : cdl1036.all (fun q => okb 1036 q.1 q.2.1 q.2.2) = true := by decide +kernel
theorem ob1037 : cdl1037.all (fun q => okb 1037 q.1 q.2.1 q.2.2) = true := by decide +kernel
theorem ob1038 : cdl1038.all (fun q => okb 1038 q.1 q.2.1 q.2.2) = true := by decide +kernel
theorem ob1039 : cdl1039.all (fun q => okb 1039 q.1 q.2.1 q.2.2) = true := by decide +kernel
theorem ob1040 : cdl1040.all (fun q => okb 1040 q.1 q.2.1 q.2.2) = true := by decide +kernel
theorem ob1041 : cdl1041.all (fun q => okb 1041 q.1 q.2.1 q.2.2) = true := by decide +kernel
theorem ob1042 : cdl1042.all (fun q => okb 1042 q.1 q.2.1 q.2.2) = true := by decide +kernel
theorem ob1043 : cdl1043.all (fun q => okb 1043 q.1 q.2.1 q.2.2) = true := by decide +kernel
theorem ob1044 : cdl1044.all (fun q => okb 1044 q.1 q.2.1 q.2.2) = true := by decide +kernel
theorem ob1045 : cdl1045.all (fun q => okb 1045 q.1 q.2.1 q.2.2) = true := by decide +kernel
theorem ob1046 : cdl1046.all (fun q => okb 1046 q.1 q.2.1 q.2.2) = true := by decide +kernel
theorem ob1047 : cdl1047.all (fun q => okb 1047 q.1 q.2.1 q.2.2) = true := by decide +kernel
theorem ob1048 : cdl1048.all (fun q => okb 1048 q.1 q.2.1 q.2.2) = true := by decide +kernel
theorem ob1049 : cdl1049.all (fun q => okb 1049 q.1 q.2.1 q.2.2) = true := by decide +kernel
theorem ob1050 : cdl1050.all (fun q => okb 1050 q.1 q.2.1 q.2.2) = true := by decide +kernel
theorem ob1051 : cdl1051.all (fun q => okb 1051 q.1 q.2.1 q.2.2) = true := by decide +kernel
theorem ob1052 : cdl1052.all (fun q => okb 1052 q.1 q.2.1 q.2.2) = true := by decide +kernel
theorem ob1053 : cdl1053.all (fun q => okb 1053 q.1 q.2.1 q.2.2) = true := by decide +kernel
theorem ob1054 : cdl1054.all (fun q => okb 1054 q.1 q.2.1 q.2.2) = true := by decide +kernel
theorem ob1055 : cdl1055.all (fun q => okb 1055 q.1 q.2.1 q.2.2) = true := by decide +kernel
theorem ob1056 : cdl1056.all (fun q => okb 1056 q.1 q.2.1 q.2.2) = true := by decide +kernel
theorem ob1057 : cdl1057.all (fun q => okb 1057 q.1 q.2.1 q.2.2) = true := by decide +kernel
theorem ob1058 : cdl1058.all (fun q => okb 1058 q.1 q.2.1 q.2.2) = true := by decide +kernel
theorem ob1059 : cdl1059.all (fun q => okb 1059 q.1 q.2.1 q.2.2) = true := by decide +kernel
theorem ob1060 : cdl1060.all (fun q => okb 1060 q.1 q.2.1 q.2.2) = true := by decide +kernel
theorem ob1061 : cdl1061.all (fun q => okb 1061 q.1 q.2.1 q.2.2) = true := by decide +kernel
theorem ob1062_0 : ((cdl1062.drop 0).take 80).all (fun q => okb 1062 q.1 q.2.1 q.2.2) = true := by decide +kernel
theorem ob1062_80 : ((cdl1062.drop 80).take 80).all (fun q => okb 1062 q.1 q.2.1 q.2.2) = true := by decide +kernel
theorem ob1062_160 : ((cdl1062.drop 160).take 80).all (fun q => okb 1062 q.1 q.2.1 q.2.2) = true := by decide +kernel
theorem ob1062 : cdl1062.all (fun q => okb 1062 q.1 q.2.1 q.2.2) = true := (all_td ob1062_0 (all_td ob1062_80 (all_td ob1062_160 (by decide +kernel : (cdl1062.drop 240).all (fun q => okb 1062 q.1 q.2.1 q.2.2) = true))))
theorem ob1063 : cdl1063.all (fun q => okb 1063 q.1 q.2.1 q.2.2) = true := by decide +kernel
theorem ob1064 : cdl1064.all (fun q => okb 1064 q.1 q.2.1 q.2.2) = true := by decide +kernel
theorem ob1065 : cdl1065.all (fun q => okb 1065 q.1 q.2.1 q.2.2) = true := by decide +kernel
theorem ob1066 : cdl1066.all (fun q => okb 1066 q.1 q.2.1 q.2.2) = true := by decide +kernel
theorem ob1067 : cdl1067.all (fun q => okb 1067 q.1 q.2.1 q.2.2) = true := by decide +kernel
theorem ob1068 : cdl1068.all (fun q => okb 1068 q.1 q.2.1 q.2.2) = true := by decide +kernel
theorem ob1069 : cdl1069.all (fun q => okb 1069 q.1 q.2.1 q.2.2) = true := by decide +kernel
theorem ob1070 : cdl1070.all (fun q => okb 1070 q.1 q.2.1 q.2.2) = true := by decide +kernel
theorem ob1071 : cdl1071.all (fun q => okb 1071 q.1 q.2.1 q.2.2) = true := by decide +kernel
theorem ob1072 : cdl1072.all (fun q => okb 1072 q.1 q.2.1 q.2.2) = true := by decide +kernel
theorem ob1073 : cdl1073.all (fun q => okb 1073 q.1 q.2.1 q.2.2) = true := by decide +kernel
theorem ob1074_0 : ((cdl1074.drop 0).take 80).all (fun q => okb 1074 q.1 q.2.1 q.2.2) = true := by decide +kernel
theorem ob1074_80 : ((cdl1074.drop 80).take 80).all (fun q => okb 1074 q.1 q.2.1 q.2.2) = true := by decide +kernel
theorem ob1074 : cdl1074.all (fun q => okb 1074 q.1 q.2.1 q.2.2) = true := (all_td ob1074_0 (all_td ob1074_80 (by decide +kernel : (cdl1074.drop 160).all (fun q => okb 1074 q.1 q.2.1 q.2.2) = true)))
theorem ob1075 : cdl1075.all (fun q => okb 1075 q.1 q.2.1 q.2.2) = true := by decide +kernel
theorem ob1076 : cdl1076.all (fun q => okb 1076 q.1 q.2.1 q.2.2) = true := by decide +kernel
theorem ob1077 : cdl1077.all (fun q => okb 1077 q.1 q.2.1 q.2.2) = true := by decide +kernel
theorem ob1078 : cdl1078.all (fun q => okb 1078 q.1 q.2.1 q.2.2) = true := by decide +kernel
theorem ob1079 : cdl1079.all (fun q => okb 1079 q.1 q.2.1 q.2.2) = true := by decide +kernel
theorem ob1080 : cdl1080.all (fun q => okb 1080 q.1 q.2.1 q.2.2) = true := by decide +kernel
theorem ob1081 : cdl1081.all (fun q => okb 1081 q.1 q.2.1 q.2.2) = true := by decide +kernel
theorem ob1082 : cdl1082.all (fun q => okb 1082 q.1 q.2.1 q.2.2) = true := by decide +kernel
theorem ob1083 : cdl1083.all (fun q => okb 1083 q.1 q.2.1 q.2.2) = true := by decide +kernel
theorem ob1084 : cdl1084.all (fun q => okb 1084 q.1 q.2.1 q.2.2) = true := by decide +kernel
theorem ob1085 : cdl1085.all (fun q => okb 1085 q.1 q.2.1 q.2.2) = true := by decide +kernel
theorem ob1086 : cdl1086.all (fun q => okb 1086 q.1 q.2.1 q.2.2) = true := by decide +kernel
theorem ob1087 : cdl1087.all (fun q => okb 1087 q.1 q.2.1 q.2.2) = true := by decide +kernel
theorem ob1088 : cdl1088.all (fun q => okb 1088 q.1 q.2.1 q.2.2) = true := by decide +kernel
theorem ob1089 : cdl1089.all (fun q => okb 1089 q.1 q.2.1 q.2.2) = true := by decide +kernel
theorem ob1090 : cdl1090.all (fun q => okb 1090 q.1 q.2.1 q.2.2) = true := by decide +kernel
theorem ob0 : cdl0.all (fun q => okb 0 q.1 q.2.1 q.2.2) = true := by decide +kernel
theorem ob1 : cdl1.all (fun q => okb 1 q.1 q.2.1 q.2.2) = true := by decide +kernel
theorem ob2 : cdl2.all (fun q => okb 2 q.1 q.2.1 q.2.2) = true := by decide +kernel
theorem ob3 : cdl3.all (fun q => okb 3 q.1 q.2.1 q.2.2) = true := by decide +kernel
theorem ob4 : cdl4.all (fun q => okb 4 q.1 q.2.1 q.2.2) = true := by decide +kernel
theorem ob5 : cdl5.all (fun q => okb 5 q.1 q.2.1 q.2.2) = true := by decide +kernel
theorem ob6 : cdl6.all (fun q => okb 6 q.1 q.2.1 q.2.2) = true := by decide +kernel
theorem ob7 : cdl7.all (fun q => okb 7 q.1 q.2.1 q.2.2) = true := by decide +kernel
theorem ob8 : cdl8.all (fun q => okb 8 q.1 q.2.1 q.2.2) = true := by decide +kernel
theorem ob9 : cdl9.all (fun q => okb 9 q.1 q.2.1 q.2.2) = true := by decide +kernel
theorem ob10 : cdl10.all (fun q => okb 10 q.1 q.2.1 q.2.2) = true := by decide +kernel
theorem ob11 : cdl11.all (fun q => okb 11 q.1 q.2.1 q.2.2) = true := by decide +kernel
theorem ob100 : cdl100.all (fun q => okb 100 q.1 q.2.1 q.2.2) = true := by decide +kernel
theorem ob101 : cdl101.all (fun q => okb 101 q.1 q.2.1 q.2.2) = true := by decide +kernel
theorem ob102 : cdl102.all (fun q => okb 102 q.1 q.2.1 q.2.2) = true := by decide +kernel
theorem ob103 : cdl103.all (fun q => okb 103 q.1 q.2.1 q.2.2) = true := by decide +kernel
theorem ob104 : cdl104.all (fun q => okb 104 q.1 q.2.1 q.2.2) = true := by decide +kernel
theorem ob105 : cdl105.all (fun q => okb 105 q.1 q.2.1 q.2.2) = true := by decide +kernel
theorem ob200 : cdl200.all (fun q => okb 200 q.1 q.2.1 q.2.2) = true := by decide +kernel
theorem ob201 : cdl201.all (fun q => okb 201 q.1 q.2.1 q.2.2) = true := by decide +kernel
theorem ob202 : cdl202.all (fun q => okb 202 q.1 q.2.1 q.2.2) = true := by decide +kernel
theorem ob203 : cdl203.all (fun q => okb 203 q.1 q.2.1 q.2.2) = true := by decide +kernel
theorem ob204 : cdl204.all (fun q => okb 204 q.1 q.2.1 q.2.2) = true := by decide +kernel
theorem ob205 : cdl205.all (fun q => okb 205 q.1 q.2.1 q.2.2) = true := by decide +kernel
theorem ob206 : cdl206.all (fun q => okb 206 q.1 q.2.1 q.2.2) = true := by decide +kernel
theorem ob207 : cdl207.all (fun q => okb 207 q.1 q.2.1 q.2.2) = true := by decide +kernel
theorem ob300 : cdl300.all (fun q => okb 300 q.1 q.2.1 q.2.2) = true := by decide +kernel
theorem ob301 : cdl301.all (fun q => okb 301 q.1 q.2.1 q.2.2) = true := by decide +kernel
theorem ob302 : cdl302.all (fun q => okb 302 q.1 q.2.1 q.2.2) = true := by decide +kernel
theorem ob303 : cdl303.all (fun q => okb 303 q.1 q.2.1 q.2.2) = true := by decide +kernel
theorem ob304 : cdl304.all (fun q => okb 304 q.1 q.2.1 q.2.2) = true := by decide +kernel
theorem ob305 : cdl305.all (fun q => okb 305 q.1 q.2.1 q.2.2) = true := by decide +kernel
theorem ob306 : cdl306.all (fun q => okb 306 q.1 q.2.1 q.2.2) = true := by decide +kernel
theorem ob307 : cdl307.all (fun q => okb 307 q.1 q.2.1 q.2.2) = true := by decide +kernel
theorem ob308 : cdl308.all (fun q => okb 308 q.1 q.2.1 q.2.2) = true := by decide +kernel
theorem ob309 : cdl309.all (fun q => okb 309 q.1 q.2.1 q.2.2) = true := by decide +kernel
theorem ob310 : cdl310.all (fun q => okb 310 q.1 q.2.1 q.2.2) = true := by decide +kernel
theorem ob311 : cdl311.all (fun q => okb 311 q.1 q.2.1 q.2.2) = true := by decide +kernel
theorem ob312 : cdl312.all (fun q => okb 312 q.1 q.2.1 q.2.2) = true := by decide +kernel
theorem ob313 : cdl313.all (fun q => okb 313 q.1 q.2.1 q.2.2) = true := by decide +kernel
theorem ob314 : cdl314.all (fun q => okb 314 q.1 q.2.1 q.2.2) = true := by decide +kernel
theorem ob315 : cdl315.all (fun q => okb 315 q.1 q.2.1 q.2.2) = true := by decide +kernel
theorem ob400 : cdl400.all (fun q => okb 400 q.1 q.2.1 q.2.2) = true := by decide +kernel
theorem ob401 : cdl401.all (fun q => okb 401 q.1 q.2.1 q.2.2) = true := by decide +kernel
theorem ob402 : cdl402.all (fun q => okb 402 q.1 q.2.1 q.2.2) = true := by decide +kernel
theorem ob403 : cdl403.all (fun q => okb 403 q.1 q.2.1 q.2.2) = true := by decide +kernel
theorem ob404 : cdl404.all (fun q => okb 404 q.1 q.2.1 q.2.2) = true := by decide +kernel
theorem ob405 : cdl405.all (fun q => okb 405 q.1 q.2.1 q.2.2) = true := by decide +kernel
theorem ob406 : cdl406.all (fun q => okb 406 q.1 q.2.1 q.2.2) = true := by decide +kernel
theorem ob500 : cdl500.all (fun q => okb 500 q.1 q.2.1 q.2.2) = true := by decide +kernel
theorem ob501 : cdl501.all (fun q => okb 501 q.1 q.2.1 q.2.2) = true := by decide +kernel
theorem ob502 : cdl502.all (fun q => okb 502 q.1 q.2.1 q.2.2) = true := by decide +kernel
theorem ob503 : cdl503.all (fun q => okb 503 q.1 q.2.1 q.2.2) = true := by decide +kernel
theorem ob504 : cdl504.all (fun q => okb 504 q.1 q.2.1 q.2.2) = true := by decide +kernel
theorem ob505 : cdl505.all (fun q => okb 505 q.1 q.2.1 q.2.2) = true := by decide +kernel
theorem ob506 : cdl506.all (fun q => okb 506 q.1 q.2.1 q.2.2) = true := by decide +kernel
theorem ob507 : cdl507.all (fun q => okb 507 q.1 q.2.1 q.2.2) = true := by decide +kernel
theorem ob600 : cdl600.all (fun q => okb 600 q.1 q.2.1 q.2.2) = true := by decide +kernel
theorem ob601 : cdl601.all (fun q => okb 601 q.1 q.2.1 q.2.2) = true := by decide +kernel
theorem ob602 : cdl602.all (fun q => okb 602 q.1 q.2.1 q.2.2) = true := by decide +kernel
theorem ob603 : cdl603.all (fun q => okb 603 q.1 q.2.1 q.2.2) = true := by decide +kernel
theorem ob604 : cdl604.all (fun q => okb 604 q.1 q.2.1 q.2.2) = true := by decide +kernel
theorem ob605 : cdl605.all (fun q => okb 605 q.1 q.2.1 q.2.2) = true := by decide +kernel
theorem ob606 : cdl606.all (fun q => okb 606 q.1 q.2.1 q.2.2) = true := by decide +kernel
theorem ob607 : cdl607.all (fun q => okb 607 q.1 q.2.1 q.2.2) = true := by decide +kernel
theorem ob608 : cdl608.all (fun q => okb 608 q.1 q.2.1 q.2.2) = true := by decide +kernel
theorem ob609 : cdl609.all (fun q => okb 609 q.1 q.2.1 q.2.2) = true := by decide +kernel
theorem ob610 : cdl610.all (fun q => okb 610 q.1 q.2.1 q.2.2) = true := by decide +kernel
theorem ob700 : cdl700.all (fun q => okb 700 q.1 q.2.1 q.2.2) = true := by decide +kernel
theorem ob701 : cdl701.all (fun q => okb 701 q.1 q.2.1 q.2.2) = true := by decide +kernel
theorem ob702 : cdl702.all (fun q => okb 702 q.1 q.2.1 q.2.2) = true := by decide +kernel
theorem ob703 : cdl703.all (fun q => okb 703 q.1 q.2.1 q.2.2) = true := by decide +kernel
theorem ob704 : cdl704.all (fun q => okb 704 q.1 q.2.1 q.2.2) = true := by decide +kernel
theorem ob800 : cdl800.all (fun q => okb 800 q.1 q.2.1 q.2.2) = true := by decide +kernel
theorem ob801 : cdl801.all (fun q => okb 801 q.1 q.2.1 q.2.2) = true := by decide +kernel
theorem ob802 : cdl802.all (fun q => okb 802 q.1 q.2.1 q.2.2) = true := by decide +kernel
theorem ob803 : cdl803.all (fun q => okb 803 q.1 q.2.1 q.2.2) = true := by decide +kernel
theorem ob1100_0 : ((cdl1100.drop 0).take 80).all (fun q => okb 1100 q.1 q.2.1 q.2.2) = true := by decide +kernel
theorem ob1100_80 : ((cdl1100.drop 80).take 80).all (fun q => okb 1100 q.1 q.2.1 q.2.2) = true := by decide +kernel
theorem ob1100_160 : ((cdl1100.drop 160).take 80).all (fun q => okb 1100 q.1 q.2.1 q.2.2) = true := by decide +kernel
theorem ob1100_240 : ((cdl1100.drop 240).take 80).all (fun q => okb 1100 q.1 q.2.1 q.2.2) = true := by decide +kernel
theorem ob1100_320 : ((cdl1100.drop 320).take 80).all (fun q => okb 1100 q.1 q.2.1 q.2.2) = true := by decide +kernel
theorem ob1100_400 : ((cdl1100.drop 400).take 80).all (fun q => okb 1100 q.1 q.2.1 q.2.2) = true := by decide +kernel
theorem ob1100_480 : ((cdl1100.drop 480).take 80).all (fun q => okb 1100 q.1 q.2.1 q.2.2) = true := by decide +kernel
theorem ob1100_560 : ((cdl1100.drop 560).take 80).all (fun q => okb 1100 q.1 q.2.1 q.2.2) = true := by decide +kernel
theorem ob1100_640 : ((cdl1100.drop 640).take 80).all (fun q => okb 1100 q.1 q.2.1 q.2.2) = true := by decide +kernel
theorem ob1100_720 : ((cdl1100.drop 720).take 80).all (fun q => okb 1100 q.1 q.2.1 q.2.2) = true := by decide +kernel
theorem ob1100_800 : ((cdl1100.drop 800).take 80).all (fun q => okb 1100 q.1 q.2.1 q.2.2) = true := by decide +kernel
theorem ob1100_880 : ((cdl1100.drop 880).take 80).all (fun q => okb 1100 q.1 q.2.1 q.2.2) = true := by decide +kernel
theorem ob1100_960 : ((cdl1100.drop 960).take 80).all (fun q => okb 1100 q.1 q.2.1 q.2.2) = true := by decide +kernel
theorem ob1100 : cdl1100.all (fun q => okb 1100 q.1 q.2.1 q.2.2) = true := (all_td ob1100_0 (all_td ob1100_80 (all_td ob1100_160 (all_td ob1100_240 (all_td ob1100_320 (all_td ob1100_400 (all_td ob1100_480 (all_td ob1100_560 (all_td ob1100_640 (all_td ob1100_720 (all_td ob1100_800 (all_td ob1100_880 (all_td ob1100_960 (by decide +kernel : (cdl1100.drop 1040).all (fun q => okb 1100 q.1 q.2.1 q.2.2) = true))))))))))))))
theorem ob1200 : cdl1200.all (fun q => okb 1200 q.1 q.2.1 q.2.2) = true := by decide +kernel
theorem ob1300 : cdl1300.all (fun q => okb 1300 q.1 q.2.1 q.2.2) = true := by decide +kernel
theorem ob1301 : cdl1301.all (fun q => okb 1301 q.1 q.2.1 q.2.2) = true := by decide +kernel
theorem ob_all : cdt.all (fun w => w.2.all (fun q => okb w.1 q.1 q.2.1 q.2.2)) = true := by
  simp only [cdt, List.all_cons, List.all_nil, Bool.and_true, Bool.and_eq_true]
  exact ⟨ob900, ob901, ob902, ob903, ob904, ob905, ob906, ob907, ob908, ob909, ob910, ob911, ob912, ob913, ob914, ob915, ob916, ob917, ob918, ob919, ob920, ob921, ob922, ob923, ob924, ob925, ob926, ob927, ob928, ob929, ob930, ob931, ob932, ob933, ob934, ob935, ob936, ob937, ob938, ob939, ob940, ob941, ob942, ob943, ob944, ob945, ob946, ob947, ob948, ob949, ob950, ob951, ob952, ob953, ob954, ob955, ob956, ob957, ob958, ob959, ob960, ob961, ob962, ob963, ob964, ob1000, ob1001, ob1002, ob1003, ob1004, ob1005, ob1006, ob1007, ob1008, ob1009, ob1010, ob1011, ob1012, ob1013, ob1014, ob1015, ob1016, ob1017, ob1018, ob1019, ob1020, ob1021, ob1022, ob1023, ob1024, ob1025, ob1026, ob1027, ob1028, ob1029, ob1030, ob1031, ob1032, ob1033, ob1034, ob1035, ob1036, ob1037, ob1038, ob1039, ob1040, ob1041, ob1042, ob1043, ob1044, ob1045, ob1046, ob1047, ob1048, ob1049, ob1050, ob1051, ob1052, ob1053, ob1054, ob1055, ob1056, ob1057, ob1058, ob1059, ob1060, ob1061, ob1062, ob1063, ob1064, ob1065, ob1066, ob1067, ob1068, ob1069, ob1070, ob1071, ob1072, ob1073, ob1074, ob1075, ob1076, ob1077, ob1078, ob1079, ob1080, ob1081, ob1082, ob1083, ob1084, ob1085, ob1086, ob1087, ob1088, ob1089, ob1090, ob0, ob1, ob2, ob3, ob4, ob5, ob6, ob7, ob8, ob9, ob10, ob11, ob100, ob101, ob102, ob103, ob104, ob105, ob200, ob201, ob202, ob203, ob204, ob205, ob206, ob207, ob300, ob301, ob302, ob303, ob304, ob305, ob306, ob307, ob308, ob309, ob310, ob311, ob312, ob313, ob314, ob315, ob400, ob401, ob402, ob403, ob404, ob405, ob406, ob500, ob501, ob502, ob503, ob504, ob505, ob506, ob507, ob600, ob601, ob602, ob603, ob604, ob605, ob606, ob607, ob608, ob609, ob610, ob700, ob701, ob702, ob703, ob704, ob800, ob801, ob802, ob803, ob1100, ob1200, ob1300, ob1301⟩
