/-! ===== links of the methods that throw, and of the law's own ===== -/
theorem gs_40 : Cond.selects "SectionDesk$Outline" ⟨"SectionDesk$Outline", "putNumber", "(I)V"⟩ ⟨"SectionDesk$Outline", "putNumber", "(I)V"⟩ ∈ GL := gl_of 40 (by decide +kernel) (by decide +kernel)
theorem gw_15 : (Cond.initialized "java/lang/IndexOutOfBoundsException") ∈ GL := gl_of 124 (by decide +kernel) (by decide +kernel)
theorem gw_16 : (Cond.initialized "java/lang/IllegalArgumentException") ∈ GL := gl_of 125 (by decide +kernel) (by decide +kernel)
theorem gw_17 : (Cond.initialized "java/lang/IllegalStateException") ∈ GL := gl_of 126 (by decide +kernel) (by decide +kernel)
theorem gw_218 : (Cond.fieldLink "SectionDesk" (36 : Nat) "SectionDesk" "outlined" "LSectionDesk$Outline;") ∈ GL := gl_of 327 (by decide +kernel) (by decide +kernel)
theorem gw_736 : (Cond.classLink "SectionDeskLaw" (13 : Nat) "java/lang/IndexOutOfBoundsException") ∈ GL := gl_of 845 (by decide +kernel) (by decide +kernel)
theorem gw_737 : (Cond.classLink "SectionDeskLaw" (15 : Nat) "java/lang/IllegalStateException") ∈ GL := gl_of 846 (by decide +kernel) (by decide +kernel)
theorem gw_738 : (Cond.methodLink "SectionDeskLaw" (7 : Nat) ({ cls := "SectionDesk", name := "addSection", desc := "(I)I" } : MethodName)) ∈ GL := gl_of 847 (by decide +kernel) (by decide +kernel)
theorem gw_739 : (Cond.instanceMethod ({ cls := "SectionDesk", name := "addSection", desc := "(I)I" } : MethodName)) ∈ GL := gl_of 848 (by decide +kernel) (by decide +kernel)
theorem gw_740 : (Cond.selects "SectionDesk" ({ cls := "SectionDesk", name := "addSection", desc := "(I)I" } : MethodName) ({ cls := "SectionDesk", name := "addSection", desc := "(I)I" } : MethodName)) ∈ GL := gl_of 849 (by decide +kernel) (by decide +kernel)
theorem gw_741 : (Cond.code ({ cls := "SectionDesk", name := "addSection", desc := "(I)I" } : MethodName) prog_1_method_2_code (2 : Nat) (Option.some FieldType.int)) ∈ GL := gl_of 850 (by decide +kernel) (by decide +kernel)
theorem gw_742 : (Cond.methodLink "SectionDesk" (40 : Nat) ({ cls := "SectionDesk$Desk", name := "addFault", desc := "(I)I" } : MethodName)) ∈ GL := gl_of 851 (by decide +kernel) (by decide +kernel)
theorem gw_743 : (Cond.instanceMethod ({ cls := "SectionDesk$Desk", name := "addFault", desc := "(I)I" } : MethodName)) ∈ GL := gl_of 852 (by decide +kernel) (by decide +kernel)
theorem gw_744 : (Cond.selects "SectionDesk$Desk" ({ cls := "SectionDesk$Desk", name := "addFault", desc := "(I)I" } : MethodName) ({ cls := "SectionDesk$Desk", name := "addFault", desc := "(I)I" } : MethodName)) ∈ GL := gl_of 853 (by decide +kernel) (by decide +kernel)
theorem gw_745 : (Cond.code ({ cls := "SectionDesk$Desk", name := "addFault", desc := "(I)I" } : MethodName) prog_3_method_7_code (2 : Nat) (Option.some FieldType.int)) ∈ GL := gl_of 854 (by decide +kernel) (by decide +kernel)
theorem gw_758 : (Cond.methodLink "SectionDesk" (44 : Nat) ({ cls := "SectionDesk", name := "refuseFor", desc := "(I)V" } : MethodName)) ∈ GL := gl_of 867 (by decide +kernel) (by decide +kernel)
theorem gw_759 : (Cond.static ({ cls := "SectionDesk", name := "refuseFor", desc := "(I)V" } : MethodName)) ∈ GL := gl_of 868 (by decide +kernel) (by decide +kernel)
theorem gw_760 : (Cond.code ({ cls := "SectionDesk", name := "refuseFor", desc := "(I)V" } : MethodName) prog_1_method_42_code (1 : Nat) (Option.none : Option FieldType)) ∈ GL := gl_of 869 (by decide +kernel) (by decide +kernel)
theorem gw_761 : (Cond.classLink "SectionDesk" (318 : Nat) "java/lang/IndexOutOfBoundsException") ∈ GL := gl_of 870 (by decide +kernel) (by decide +kernel)
theorem gw_829 : (Cond.classLink "SectionDesk" (325 : Nat) "java/lang/IllegalArgumentException") ∈ GL := gl_of 938 (by decide +kernel) (by decide +kernel)
theorem gw_845 : (Cond.classLink "SectionDesk" (330 : Nat) "java/lang/IllegalStateException") ∈ GL := gl_of 954 (by decide +kernel) (by decide +kernel)
theorem gw_861 : (Cond.methodLink "SectionDesk" (56 : Nat) ({ cls := "SectionDesk$Tree", name := "add", desc := "(I)I" } : MethodName)) ∈ GL := gl_of 970 (by decide +kernel) (by decide +kernel)
theorem gw_862 : (Cond.instanceMethod ({ cls := "SectionDesk$Tree", name := "add", desc := "(I)I" } : MethodName)) ∈ GL := gl_of 971 (by decide +kernel) (by decide +kernel)
theorem gw_863 : (Cond.selects "SectionDesk$Tree" ({ cls := "SectionDesk$Tree", name := "add", desc := "(I)I" } : MethodName) ({ cls := "SectionDesk$Tree", name := "add", desc := "(I)I" } : MethodName)) ∈ GL := gl_of 972 (by decide +kernel) (by decide +kernel)
theorem gw_864 : (Cond.code ({ cls := "SectionDesk$Tree", name := "add", desc := "(I)I" } : MethodName) prog_9_method_14_code (4 : Nat) (Option.some FieldType.int)) ∈ GL := gl_of 973 (by decide +kernel) (by decide +kernel)
theorem gw_878 : (Cond.classLink "SectionDeskLaw" (20 : Nat) "java/lang/IllegalArgumentException") ∈ GL := gl_of 987 (by decide +kernel) (by decide +kernel)
theorem gw_879 : (Cond.methodLink "SectionDeskLaw" (17 : Nat) ({ cls := "SectionDesk", name := "removeSection", desc := "(I)I" } : MethodName)) ∈ GL := gl_of 988 (by decide +kernel) (by decide +kernel)
theorem gw_880 : (Cond.instanceMethod ({ cls := "SectionDesk", name := "removeSection", desc := "(I)I" } : MethodName)) ∈ GL := gl_of 989 (by decide +kernel) (by decide +kernel)
theorem gw_881 : (Cond.selects "SectionDesk" ({ cls := "SectionDesk", name := "removeSection", desc := "(I)I" } : MethodName) ({ cls := "SectionDesk", name := "removeSection", desc := "(I)I" } : MethodName)) ∈ GL := gl_of 990 (by decide +kernel) (by decide +kernel)
theorem gw_882 : (Cond.code ({ cls := "SectionDesk", name := "removeSection", desc := "(I)I" } : MethodName) prog_1_method_3_code (2 : Nat) (Option.some FieldType.int)) ∈ GL := gl_of 991 (by decide +kernel) (by decide +kernel)
theorem gw_883 : (Cond.methodLink "SectionDesk" (61 : Nat) ({ cls := "SectionDesk$Desk", name := "removeFault", desc := "(I)I" } : MethodName)) ∈ GL := gl_of 992 (by decide +kernel) (by decide +kernel)
theorem gw_884 : (Cond.instanceMethod ({ cls := "SectionDesk$Desk", name := "removeFault", desc := "(I)I" } : MethodName)) ∈ GL := gl_of 993 (by decide +kernel) (by decide +kernel)
theorem gw_885 : (Cond.selects "SectionDesk$Desk" ({ cls := "SectionDesk$Desk", name := "removeFault", desc := "(I)I" } : MethodName) ({ cls := "SectionDesk$Desk", name := "removeFault", desc := "(I)I" } : MethodName)) ∈ GL := gl_of 994 (by decide +kernel) (by decide +kernel)
theorem gw_886 : (Cond.code ({ cls := "SectionDesk$Desk", name := "removeFault", desc := "(I)I" } : MethodName) prog_3_method_8_code (2 : Nat) (Option.some FieldType.int)) ∈ GL := gl_of 995 (by decide +kernel) (by decide +kernel)
theorem gw_891 : (Cond.methodLink "SectionDesk" (64 : Nat) ({ cls := "SectionDesk$Desk", name := "removeNow", desc := "(I)I" } : MethodName)) ∈ GL := gl_of 1000 (by decide +kernel) (by decide +kernel)
theorem gw_892 : (Cond.instanceMethod ({ cls := "SectionDesk$Desk", name := "removeNow", desc := "(I)I" } : MethodName)) ∈ GL := gl_of 1001 (by decide +kernel) (by decide +kernel)
theorem gw_893 : (Cond.selects "SectionDesk$Desk" ({ cls := "SectionDesk$Desk", name := "removeNow", desc := "(I)I" } : MethodName) ({ cls := "SectionDesk$Desk", name := "removeNow", desc := "(I)I" } : MethodName)) ∈ GL := gl_of 1002 (by decide +kernel) (by decide +kernel)
theorem gw_894 : (Cond.code ({ cls := "SectionDesk$Desk", name := "removeNow", desc := "(I)I" } : MethodName) prog_3_method_9_code (3 : Nat) (Option.some FieldType.int)) ∈ GL := gl_of 1003 (by decide +kernel) (by decide +kernel)
theorem gw_909 : (Cond.methodLink "SectionDeskLaw" (22 : Nat) ({ cls := "SectionDesk", name := "moveSection", desc := "(II)I" } : MethodName)) ∈ GL := gl_of 1018 (by decide +kernel) (by decide +kernel)
theorem gw_910 : (Cond.instanceMethod ({ cls := "SectionDesk", name := "moveSection", desc := "(II)I" } : MethodName)) ∈ GL := gl_of 1019 (by decide +kernel) (by decide +kernel)
theorem gw_911 : (Cond.selects "SectionDesk" ({ cls := "SectionDesk", name := "moveSection", desc := "(II)I" } : MethodName) ({ cls := "SectionDesk", name := "moveSection", desc := "(II)I" } : MethodName)) ∈ GL := gl_of 1020 (by decide +kernel) (by decide +kernel)
theorem gw_912 : (Cond.code ({ cls := "SectionDesk", name := "moveSection", desc := "(II)I" } : MethodName) prog_1_method_4_code (3 : Nat) (Option.some FieldType.int)) ∈ GL := gl_of 1021 (by decide +kernel) (by decide +kernel)
theorem gw_913 : (Cond.methodLink "SectionDesk" (67 : Nat) ({ cls := "SectionDesk$Desk", name := "moveFault", desc := "(II)I" } : MethodName)) ∈ GL := gl_of 1022 (by decide +kernel) (by decide +kernel)
theorem gw_914 : (Cond.instanceMethod ({ cls := "SectionDesk$Desk", name := "moveFault", desc := "(II)I" } : MethodName)) ∈ GL := gl_of 1023 (by decide +kernel) (by decide +kernel)
theorem gw_915 : (Cond.selects "SectionDesk$Desk" ({ cls := "SectionDesk$Desk", name := "moveFault", desc := "(II)I" } : MethodName) ({ cls := "SectionDesk$Desk", name := "moveFault", desc := "(II)I" } : MethodName)) ∈ GL := gl_of 1024 (by decide +kernel) (by decide +kernel)
theorem gw_916 : (Cond.code ({ cls := "SectionDesk$Desk", name := "moveFault", desc := "(II)I" } : MethodName) prog_3_method_10_code (5 : Nat) (Option.some FieldType.int)) ∈ GL := gl_of 1025 (by decide +kernel) (by decide +kernel)
theorem gw_921 : (Cond.methodLink "SectionDesk" (71 : Nat) ({ cls := "SectionDesk$Tree", name := "move", desc := "(II)V" } : MethodName)) ∈ GL := gl_of 1030 (by decide +kernel) (by decide +kernel)
theorem gw_922 : (Cond.instanceMethod ({ cls := "SectionDesk$Tree", name := "move", desc := "(II)V" } : MethodName)) ∈ GL := gl_of 1031 (by decide +kernel) (by decide +kernel)
theorem gw_923 : (Cond.selects "SectionDesk$Tree" ({ cls := "SectionDesk$Tree", name := "move", desc := "(II)V" } : MethodName) ({ cls := "SectionDesk$Tree", name := "move", desc := "(II)V" } : MethodName)) ∈ GL := gl_of 1032 (by decide +kernel) (by decide +kernel)
theorem gw_924 : (Cond.code ({ cls := "SectionDesk$Tree", name := "move", desc := "(II)V" } : MethodName) prog_9_method_17_code (5 : Nat) (Option.none : Option FieldType)) ∈ GL := gl_of 1033 (by decide +kernel) (by decide +kernel)
theorem gw_925 : (Cond.methodLink "SectionDesk" (75 : Nat) ({ cls := "SectionDesk$Tree", name := "depthOf", desc := "(I)I" } : MethodName)) ∈ GL := gl_of 1034 (by decide +kernel) (by decide +kernel)
theorem gw_926 : (Cond.instanceMethod ({ cls := "SectionDesk$Tree", name := "depthOf", desc := "(I)I" } : MethodName)) ∈ GL := gl_of 1035 (by decide +kernel) (by decide +kernel)
theorem gw_927 : (Cond.selects "SectionDesk$Tree" ({ cls := "SectionDesk$Tree", name := "depthOf", desc := "(I)I" } : MethodName) ({ cls := "SectionDesk$Tree", name := "depthOf", desc := "(I)I" } : MethodName)) ∈ GL := gl_of 1036 (by decide +kernel) (by decide +kernel)
theorem gw_928 : (Cond.code ({ cls := "SectionDesk$Tree", name := "depthOf", desc := "(I)I" } : MethodName) prog_9_method_11_code (2 : Nat) (Option.some FieldType.int)) ∈ GL := gl_of 1037 (by decide +kernel) (by decide +kernel)
theorem gw_933 : (Cond.methodLink "SectionDeskLaw" (26 : Nat) ({ cls := "SectionDesk", name := "section", desc := "(II)I" } : MethodName)) ∈ GL := gl_of 1042 (by decide +kernel) (by decide +kernel)
theorem gw_934 : (Cond.instanceMethod ({ cls := "SectionDesk", name := "section", desc := "(II)I" } : MethodName)) ∈ GL := gl_of 1043 (by decide +kernel) (by decide +kernel)
theorem gw_935 : (Cond.selects "SectionDesk" ({ cls := "SectionDesk", name := "section", desc := "(II)I" } : MethodName) ({ cls := "SectionDesk", name := "section", desc := "(II)I" } : MethodName)) ∈ GL := gl_of 1044 (by decide +kernel) (by decide +kernel)
theorem gw_936 : (Cond.code ({ cls := "SectionDesk", name := "section", desc := "(II)I" } : MethodName) prog_1_method_6_code (3 : Nat) (Option.some FieldType.int)) ∈ GL := gl_of 1045 (by decide +kernel) (by decide +kernel)
theorem gw_937 : (Cond.methodLink "SectionDesk" (82 : Nat) ({ cls := "SectionDesk$Tree", name := "has", desc := "(I)Z" } : MethodName)) ∈ GL := gl_of 1046 (by decide +kernel) (by decide +kernel)
theorem gw_938 : (Cond.methodLink "SectionDesk" (90 : Nat) ({ cls := "SectionDesk", name := "faultOf", desc := "(ZZZ)I" } : MethodName)) ∈ GL := gl_of 1047 (by decide +kernel) (by decide +kernel)
theorem gw_939 : (Cond.methodLink "SectionDesk" (94 : Nat) ({ cls := "SectionDesk$Tree", name := "parentOf", desc := "(I)I" } : MethodName)) ∈ GL := gl_of 1048 (by decide +kernel) (by decide +kernel)
theorem gw_940 : (Cond.methodLink "SectionDesk" (97 : Nat) ({ cls := "SectionDesk$Tree", name := "childrenOf", desc := "(I)I" } : MethodName)) ∈ GL := gl_of 1049 (by decide +kernel) (by decide +kernel)
theorem gw_941 : (Cond.methodLink "SectionDesk" (100 : Nat) ({ cls := "SectionDesk$Tree", name := "versionOf", desc := "(I)I" } : MethodName)) ∈ GL := gl_of 1050 (by decide +kernel) (by decide +kernel)
theorem gw_942 : (Cond.methodLink "SectionDesk" (103 : Nat) ({ cls := "SectionDesk$Tree", name := "subtreeOf", desc := "(I)I" } : MethodName)) ∈ GL := gl_of 1051 (by decide +kernel) (by decide +kernel)
theorem gw_943 : (Cond.methodLink "SectionDesk" (106 : Nat) ({ cls := "java/lang/Integer", name := "bitCount", desc := "(I)I" } : MethodName)) ∈ GL := gl_of 1052 (by decide +kernel) (by decide +kernel)
theorem gw_947 : (Cond.methodLink "SectionDeskLaw" (29 : Nat) ({ cls := "SectionDesk", name := "child", desc := "(II)I" } : MethodName)) ∈ GL := gl_of 1056 (by decide +kernel) (by decide +kernel)
theorem gw_948 : (Cond.instanceMethod ({ cls := "SectionDesk", name := "child", desc := "(II)I" } : MethodName)) ∈ GL := gl_of 1057 (by decide +kernel) (by decide +kernel)
theorem gw_949 : (Cond.selects "SectionDesk" ({ cls := "SectionDesk", name := "child", desc := "(II)I" } : MethodName) ({ cls := "SectionDesk", name := "child", desc := "(II)I" } : MethodName)) ∈ GL := gl_of 1058 (by decide +kernel) (by decide +kernel)
theorem gw_950 : (Cond.code ({ cls := "SectionDesk", name := "child", desc := "(II)I" } : MethodName) prog_1_method_7_code (4 : Nat) (Option.some FieldType.int)) ∈ GL := gl_of 1059 (by decide +kernel) (by decide +kernel)
theorem gw_951 : (Cond.methodLink "SectionDesk" (111 : Nat) ({ cls := "SectionDesk$Tree", name := "childAt", desc := "(II)I" } : MethodName)) ∈ GL := gl_of 1060 (by decide +kernel) (by decide +kernel)
theorem gw_955 : (Cond.methodLink "SectionDeskLaw" (32 : Nat) ({ cls := "SectionDesk", name := "line", desc := "(II)I" } : MethodName)) ∈ GL := gl_of 1064 (by decide +kernel) (by decide +kernel)
theorem gw_956 : (Cond.instanceMethod ({ cls := "SectionDesk", name := "line", desc := "(II)I" } : MethodName)) ∈ GL := gl_of 1065 (by decide +kernel) (by decide +kernel)
theorem gw_957 : (Cond.selects "SectionDesk" ({ cls := "SectionDesk", name := "line", desc := "(II)I" } : MethodName) ({ cls := "SectionDesk", name := "line", desc := "(II)I" } : MethodName)) ∈ GL := gl_of 1066 (by decide +kernel) (by decide +kernel)
theorem gw_958 : (Cond.code ({ cls := "SectionDesk", name := "line", desc := "(II)I" } : MethodName) prog_1_method_8_code (3 : Nat) (Option.some FieldType.int)) ∈ GL := gl_of 1067 (by decide +kernel) (by decide +kernel)
theorem gw_959 : (Cond.methodLink "SectionDesk" (114 : Nat) ({ cls := "SectionDesk$Desk", name := "hasLine", desc := "(II)Z" } : MethodName)) ∈ GL := gl_of 1068 (by decide +kernel) (by decide +kernel)
theorem gw_960 : (Cond.methodLink "SectionDesk" (118 : Nat) ({ cls := "SectionDesk", name := "cellOf", desc := "(II)I" } : MethodName)) ∈ GL := gl_of 1069 (by decide +kernel) (by decide +kernel)
theorem gw_961 : (Cond.methodLink "SectionDesk" (121 : Nat) ({ cls := "SectionDesk$Tree", name := "valueAt", desc := "(I)I" } : MethodName)) ∈ GL := gl_of 1070 (by decide +kernel) (by decide +kernel)
theorem gw_965 : (Cond.methodLink "SectionDeskLaw" (35 : Nat) ({ cls := "SectionDesk", name := "write", desc := "(III)I" } : MethodName)) ∈ GL := gl_of 1074 (by decide +kernel) (by decide +kernel)
theorem gw_966 : (Cond.instanceMethod ({ cls := "SectionDesk", name := "write", desc := "(III)I" } : MethodName)) ∈ GL := gl_of 1075 (by decide +kernel) (by decide +kernel)
theorem gw_967 : (Cond.selects "SectionDesk" ({ cls := "SectionDesk", name := "write", desc := "(III)I" } : MethodName) ({ cls := "SectionDesk", name := "write", desc := "(III)I" } : MethodName)) ∈ GL := gl_of 1076 (by decide +kernel) (by decide +kernel)
theorem gw_968 : (Cond.code ({ cls := "SectionDesk", name := "write", desc := "(III)I" } : MethodName) prog_1_method_9_code (4 : Nat) (Option.some FieldType.int)) ∈ GL := gl_of 1077 (by decide +kernel) (by decide +kernel)
theorem gw_969 : (Cond.methodLink "SectionDesk" (124 : Nat) ({ cls := "SectionDesk$Desk", name := "writeFault", desc := "(III)I" } : MethodName)) ∈ GL := gl_of 1078 (by decide +kernel) (by decide +kernel)
theorem gw_970 : (Cond.instanceMethod ({ cls := "SectionDesk$Desk", name := "writeFault", desc := "(III)I" } : MethodName)) ∈ GL := gl_of 1079 (by decide +kernel) (by decide +kernel)
theorem gw_971 : (Cond.selects "SectionDesk$Desk" ({ cls := "SectionDesk$Desk", name := "writeFault", desc := "(III)I" } : MethodName) ({ cls := "SectionDesk$Desk", name := "writeFault", desc := "(III)I" } : MethodName)) ∈ GL := gl_of 1080 (by decide +kernel) (by decide +kernel)
theorem gw_972 : (Cond.code ({ cls := "SectionDesk$Desk", name := "writeFault", desc := "(III)I" } : MethodName) prog_3_method_12_code (5 : Nat) (Option.some FieldType.int)) ∈ GL := gl_of 1081 (by decide +kernel) (by decide +kernel)
theorem gw_973 : (Cond.methodLink "SectionDesk" (128 : Nat) ({ cls := "SectionDesk$Desk", name := "writeNow", desc := "(III)I" } : MethodName)) ∈ GL := gl_of 1082 (by decide +kernel) (by decide +kernel)
theorem gw_974 : (Cond.instanceMethod ({ cls := "SectionDesk$Desk", name := "writeNow", desc := "(III)I" } : MethodName)) ∈ GL := gl_of 1083 (by decide +kernel) (by decide +kernel)
theorem gw_975 : (Cond.selects "SectionDesk$Desk" ({ cls := "SectionDesk$Desk", name := "writeNow", desc := "(III)I" } : MethodName) ({ cls := "SectionDesk$Desk", name := "writeNow", desc := "(III)I" } : MethodName)) ∈ GL := gl_of 1084 (by decide +kernel) (by decide +kernel)
theorem gw_976 : (Cond.code ({ cls := "SectionDesk$Desk", name := "writeNow", desc := "(III)I" } : MethodName) prog_3_method_13_code (6 : Nat) (Option.some FieldType.int)) ∈ GL := gl_of 1085 (by decide +kernel) (by decide +kernel)
theorem gw_980 : (Cond.methodLink "SectionDeskLaw" (39 : Nat) ({ cls := "SectionDesk", name := "request", desc := "(IIIZ)I" } : MethodName)) ∈ GL := gl_of 1089 (by decide +kernel) (by decide +kernel)
theorem gw_981 : (Cond.instanceMethod ({ cls := "SectionDesk", name := "request", desc := "(IIIZ)I" } : MethodName)) ∈ GL := gl_of 1090 (by decide +kernel) (by decide +kernel)
theorem gw_982 : (Cond.selects "SectionDesk" ({ cls := "SectionDesk", name := "request", desc := "(IIIZ)I" } : MethodName) ({ cls := "SectionDesk", name := "request", desc := "(IIIZ)I" } : MethodName)) ∈ GL := gl_of 1091 (by decide +kernel) (by decide +kernel)
theorem gw_983 : (Cond.code ({ cls := "SectionDesk", name := "request", desc := "(IIIZ)I" } : MethodName) prog_1_method_10_code (5 : Nat) (Option.some FieldType.int)) ∈ GL := gl_of 1092 (by decide +kernel) (by decide +kernel)
theorem gw_987 : (Cond.methodLink "SectionDeskLaw" (43 : Nat) ({ cls := "SectionDesk", name := "cancel", desc := "(I)I" } : MethodName)) ∈ GL := gl_of 1096 (by decide +kernel) (by decide +kernel)
theorem gw_988 : (Cond.instanceMethod ({ cls := "SectionDesk", name := "cancel", desc := "(I)I" } : MethodName)) ∈ GL := gl_of 1097 (by decide +kernel) (by decide +kernel)
theorem gw_989 : (Cond.selects "SectionDesk" ({ cls := "SectionDesk", name := "cancel", desc := "(I)I" } : MethodName) ({ cls := "SectionDesk", name := "cancel", desc := "(I)I" } : MethodName)) ∈ GL := gl_of 1098 (by decide +kernel) (by decide +kernel)
theorem gw_990 : (Cond.code ({ cls := "SectionDesk", name := "cancel", desc := "(I)I" } : MethodName) prog_1_method_11_code (2 : Nat) (Option.some FieldType.int)) ∈ GL := gl_of 1099 (by decide +kernel) (by decide +kernel)
theorem gw_991 : (Cond.methodLink "SectionDesk" (138 : Nat) ({ cls := "SectionDesk$Desk", name := "waitingFault", desc := "(I)I" } : MethodName)) ∈ GL := gl_of 1100 (by decide +kernel) (by decide +kernel)
theorem gw_992 : (Cond.instanceMethod ({ cls := "SectionDesk$Desk", name := "waitingFault", desc := "(I)I" } : MethodName)) ∈ GL := gl_of 1101 (by decide +kernel) (by decide +kernel)
theorem gw_993 : (Cond.selects "SectionDesk$Desk" ({ cls := "SectionDesk$Desk", name := "waitingFault", desc := "(I)I" } : MethodName) ({ cls := "SectionDesk$Desk", name := "waitingFault", desc := "(I)I" } : MethodName)) ∈ GL := gl_of 1102 (by decide +kernel) (by decide +kernel)
theorem gw_994 : (Cond.code ({ cls := "SectionDesk$Desk", name := "waitingFault", desc := "(I)I" } : MethodName) prog_3_method_31_code (2 : Nat) (Option.some FieldType.int)) ∈ GL := gl_of 1103 (by decide +kernel) (by decide +kernel)
theorem gw_995 : (Cond.methodLink "SectionDesk" (141 : Nat) ({ cls := "SectionDesk$Desk", name := "cancelNow", desc := "(I)I" } : MethodName)) ∈ GL := gl_of 1104 (by decide +kernel) (by decide +kernel)
theorem gw_996 : (Cond.instanceMethod ({ cls := "SectionDesk$Desk", name := "cancelNow", desc := "(I)I" } : MethodName)) ∈ GL := gl_of 1105 (by decide +kernel) (by decide +kernel)
theorem gw_997 : (Cond.selects "SectionDesk$Desk" ({ cls := "SectionDesk$Desk", name := "cancelNow", desc := "(I)I" } : MethodName) ({ cls := "SectionDesk$Desk", name := "cancelNow", desc := "(I)I" } : MethodName)) ∈ GL := gl_of 1106 (by decide +kernel) (by decide +kernel)
theorem gw_998 : (Cond.code ({ cls := "SectionDesk$Desk", name := "cancelNow", desc := "(I)I" } : MethodName) prog_3_method_32_code (2 : Nat) (Option.some FieldType.int)) ∈ GL := gl_of 1107 (by decide +kernel) (by decide +kernel)
theorem gw_1002 : (Cond.methodLink "SectionDeskLaw" (46 : Nat) ({ cls := "SectionDesk", name := "renew", desc := "(II)I" } : MethodName)) ∈ GL := gl_of 1111 (by decide +kernel) (by decide +kernel)
theorem gw_1003 : (Cond.instanceMethod ({ cls := "SectionDesk", name := "renew", desc := "(II)I" } : MethodName)) ∈ GL := gl_of 1112 (by decide +kernel) (by decide +kernel)
theorem gw_1004 : (Cond.selects "SectionDesk" ({ cls := "SectionDesk", name := "renew", desc := "(II)I" } : MethodName) ({ cls := "SectionDesk", name := "renew", desc := "(II)I" } : MethodName)) ∈ GL := gl_of 1113 (by decide +kernel) (by decide +kernel)
theorem gw_1005 : (Cond.code ({ cls := "SectionDesk", name := "renew", desc := "(II)I" } : MethodName) prog_1_method_12_code (3 : Nat) (Option.some FieldType.int)) ∈ GL := gl_of 1114 (by decide +kernel) (by decide +kernel)
theorem gw_1006 : (Cond.methodLink "SectionDesk" (144 : Nat) ({ cls := "SectionDesk$Desk", name := "renewFault", desc := "(II)I" } : MethodName)) ∈ GL := gl_of 1115 (by decide +kernel) (by decide +kernel)
theorem gw_1007 : (Cond.instanceMethod ({ cls := "SectionDesk$Desk", name := "renewFault", desc := "(II)I" } : MethodName)) ∈ GL := gl_of 1116 (by decide +kernel) (by decide +kernel)
theorem gw_1008 : (Cond.selects "SectionDesk$Desk" ({ cls := "SectionDesk$Desk", name := "renewFault", desc := "(II)I" } : MethodName) ({ cls := "SectionDesk$Desk", name := "renewFault", desc := "(II)I" } : MethodName)) ∈ GL := gl_of 1117 (by decide +kernel) (by decide +kernel)
theorem gw_1009 : (Cond.code ({ cls := "SectionDesk$Desk", name := "renewFault", desc := "(II)I" } : MethodName) prog_3_method_36_code (5 : Nat) (Option.some FieldType.int)) ∈ GL := gl_of 1118 (by decide +kernel) (by decide +kernel)
theorem gw_1010 : (Cond.methodLink "SectionDesk" (147 : Nat) ({ cls := "SectionDesk$Desk", name := "renewNow", desc := "(II)I" } : MethodName)) ∈ GL := gl_of 1119 (by decide +kernel) (by decide +kernel)
theorem gw_1011 : (Cond.instanceMethod ({ cls := "SectionDesk$Desk", name := "renewNow", desc := "(II)I" } : MethodName)) ∈ GL := gl_of 1120 (by decide +kernel) (by decide +kernel)
theorem gw_1012 : (Cond.selects "SectionDesk$Desk" ({ cls := "SectionDesk$Desk", name := "renewNow", desc := "(II)I" } : MethodName) ({ cls := "SectionDesk$Desk", name := "renewNow", desc := "(II)I" } : MethodName)) ∈ GL := gl_of 1121 (by decide +kernel) (by decide +kernel)
theorem gw_1013 : (Cond.code ({ cls := "SectionDesk$Desk", name := "renewNow", desc := "(II)I" } : MethodName) prog_3_method_37_code (3 : Nat) (Option.some FieldType.int)) ∈ GL := gl_of 1122 (by decide +kernel) (by decide +kernel)
theorem gw_1021 : (Cond.methodLink "SectionDeskLaw" (49 : Nat) ({ cls := "SectionDesk", name := "breakUp", desc := "(I)I" } : MethodName)) ∈ GL := gl_of 1130 (by decide +kernel) (by decide +kernel)
theorem gw_1022 : (Cond.instanceMethod ({ cls := "SectionDesk", name := "breakUp", desc := "(I)I" } : MethodName)) ∈ GL := gl_of 1131 (by decide +kernel) (by decide +kernel)
theorem gw_1023 : (Cond.selects "SectionDesk" ({ cls := "SectionDesk", name := "breakUp", desc := "(I)I" } : MethodName) ({ cls := "SectionDesk", name := "breakUp", desc := "(I)I" } : MethodName)) ∈ GL := gl_of 1132 (by decide +kernel) (by decide +kernel)
theorem gw_1024 : (Cond.code ({ cls := "SectionDesk", name := "breakUp", desc := "(I)I" } : MethodName) prog_1_method_13_code (2 : Nat) (Option.some FieldType.int)) ∈ GL := gl_of 1133 (by decide +kernel) (by decide +kernel)
theorem gw_1028 : (Cond.methodLink "SectionDeskLaw" (52 : Nat) ({ cls := "SectionDesk", name := "discard", desc := "(I)I" } : MethodName)) ∈ GL := gl_of 1137 (by decide +kernel) (by decide +kernel)
theorem gw_1029 : (Cond.instanceMethod ({ cls := "SectionDesk", name := "discard", desc := "(I)I" } : MethodName)) ∈ GL := gl_of 1138 (by decide +kernel) (by decide +kernel)
theorem gw_1030 : (Cond.selects "SectionDesk" ({ cls := "SectionDesk", name := "discard", desc := "(I)I" } : MethodName) ({ cls := "SectionDesk", name := "discard", desc := "(I)I" } : MethodName)) ∈ GL := gl_of 1139 (by decide +kernel) (by decide +kernel)
theorem gw_1031 : (Cond.code ({ cls := "SectionDesk", name := "discard", desc := "(I)I" } : MethodName) prog_1_method_14_code (2 : Nat) (Option.some FieldType.int)) ∈ GL := gl_of 1140 (by decide +kernel) (by decide +kernel)
theorem gw_1035 : (Cond.methodLink "SectionDeskLaw" (55 : Nat) ({ cls := "SectionDesk", name := "edit", desc := "(IIII)I" } : MethodName)) ∈ GL := gl_of 1144 (by decide +kernel) (by decide +kernel)
theorem gw_1036 : (Cond.instanceMethod ({ cls := "SectionDesk", name := "edit", desc := "(IIII)I" } : MethodName)) ∈ GL := gl_of 1145 (by decide +kernel) (by decide +kernel)
theorem gw_1037 : (Cond.selects "SectionDesk" ({ cls := "SectionDesk", name := "edit", desc := "(IIII)I" } : MethodName) ({ cls := "SectionDesk", name := "edit", desc := "(IIII)I" } : MethodName)) ∈ GL := gl_of 1146 (by decide +kernel) (by decide +kernel)
theorem gw_1038 : (Cond.code ({ cls := "SectionDesk", name := "edit", desc := "(IIII)I" } : MethodName) prog_1_method_15_code (5 : Nat) (Option.some FieldType.int)) ∈ GL := gl_of 1147 (by decide +kernel) (by decide +kernel)
theorem gw_1042 : (Cond.methodLink "SectionDeskLaw" (59 : Nat) ({ cls := "SectionDesk", name := "copied", desc := "(IIIZ)I" } : MethodName)) ∈ GL := gl_of 1151 (by decide +kernel) (by decide +kernel)
theorem gw_1043 : (Cond.instanceMethod ({ cls := "SectionDesk", name := "copied", desc := "(IIIZ)I" } : MethodName)) ∈ GL := gl_of 1152 (by decide +kernel) (by decide +kernel)
theorem gw_1044 : (Cond.selects "SectionDesk" ({ cls := "SectionDesk", name := "copied", desc := "(IIIZ)I" } : MethodName) ({ cls := "SectionDesk", name := "copied", desc := "(IIIZ)I" } : MethodName)) ∈ GL := gl_of 1153 (by decide +kernel) (by decide +kernel)
theorem gw_1045 : (Cond.code ({ cls := "SectionDesk", name := "copied", desc := "(IIIZ)I" } : MethodName) prog_1_method_16_code (6 : Nat) (Option.some FieldType.int)) ∈ GL := gl_of 1154 (by decide +kernel) (by decide +kernel)
theorem gw_1046 : (Cond.methodLink "SectionDesk" (169 : Nat) ({ cls := "SectionDesk$Desk", name := "hasCopy", desc := "(III)Z" } : MethodName)) ∈ GL := gl_of 1155 (by decide +kernel) (by decide +kernel)
theorem gw_1047 : (Cond.methodLink "SectionDesk" (176 : Nat) ({ cls := "SectionDesk$CheckOuts", name := "baseAt", desc := "(II)I" } : MethodName)) ∈ GL := gl_of 1156 (by decide +kernel) (by decide +kernel)
theorem gw_1048 : (Cond.methodLink "SectionDesk" (181 : Nat) ({ cls := "SectionDesk$CheckOuts", name := "ownAt", desc := "(II)I" } : MethodName)) ∈ GL := gl_of 1157 (by decide +kernel) (by decide +kernel)
theorem gw_1052 : (Cond.methodLink "SectionDeskLaw" (62 : Nat) ({ cls := "SectionDesk", name := "conflicts", desc := "(I)I" } : MethodName)) ∈ GL := gl_of 1161 (by decide +kernel) (by decide +kernel)
theorem gw_1053 : (Cond.instanceMethod ({ cls := "SectionDesk", name := "conflicts", desc := "(I)I" } : MethodName)) ∈ GL := gl_of 1162 (by decide +kernel) (by decide +kernel)
theorem gw_1054 : (Cond.selects "SectionDesk" ({ cls := "SectionDesk", name := "conflicts", desc := "(I)I" } : MethodName) ({ cls := "SectionDesk", name := "conflicts", desc := "(I)I" } : MethodName)) ∈ GL := gl_of 1163 (by decide +kernel) (by decide +kernel)
theorem gw_1055 : (Cond.code ({ cls := "SectionDesk", name := "conflicts", desc := "(I)I" } : MethodName) prog_1_method_17_code (2 : Nat) (Option.some FieldType.int)) ∈ GL := gl_of 1164 (by decide +kernel) (by decide +kernel)
theorem gw_1056 : (Cond.methodLink "SectionDesk" (184 : Nat) ({ cls := "SectionDesk$Desk", name := "countConflicts", desc := "(I)I" } : MethodName)) ∈ GL := gl_of 1165 (by decide +kernel) (by decide +kernel)
theorem gw_1060 : (Cond.methodLink "SectionDeskLaw" (65 : Nat) ({ cls := "SectionDesk", name := "giveBack", desc := "(II)I" } : MethodName)) ∈ GL := gl_of 1169 (by decide +kernel) (by decide +kernel)
theorem gw_1061 : (Cond.instanceMethod ({ cls := "SectionDesk", name := "giveBack", desc := "(II)I" } : MethodName)) ∈ GL := gl_of 1170 (by decide +kernel) (by decide +kernel)
theorem gw_1062 : (Cond.selects "SectionDesk" ({ cls := "SectionDesk", name := "giveBack", desc := "(II)I" } : MethodName) ({ cls := "SectionDesk", name := "giveBack", desc := "(II)I" } : MethodName)) ∈ GL := gl_of 1171 (by decide +kernel) (by decide +kernel)
theorem gw_1063 : (Cond.code ({ cls := "SectionDesk", name := "giveBack", desc := "(II)I" } : MethodName) prog_1_method_18_code (3 : Nat) (Option.some FieldType.int)) ∈ GL := gl_of 1172 (by decide +kernel) (by decide +kernel)
theorem gw_1067 : (Cond.methodLink "SectionDeskLaw" (68 : Nat) ({ cls := "SectionDesk", name := "checkOut", desc := "(II)I" } : MethodName)) ∈ GL := gl_of 1176 (by decide +kernel) (by decide +kernel)
theorem gw_1068 : (Cond.instanceMethod ({ cls := "SectionDesk", name := "checkOut", desc := "(II)I" } : MethodName)) ∈ GL := gl_of 1177 (by decide +kernel) (by decide +kernel)
theorem gw_1069 : (Cond.selects "SectionDesk" ({ cls := "SectionDesk", name := "checkOut", desc := "(II)I" } : MethodName) ({ cls := "SectionDesk", name := "checkOut", desc := "(II)I" } : MethodName)) ∈ GL := gl_of 1178 (by decide +kernel) (by decide +kernel)
theorem gw_1070 : (Cond.code ({ cls := "SectionDesk", name := "checkOut", desc := "(II)I" } : MethodName) prog_1_method_19_code (3 : Nat) (Option.some FieldType.int)) ∈ GL := gl_of 1179 (by decide +kernel) (by decide +kernel)
theorem gw_1071 : (Cond.methodLink "SectionDesk" (193 : Nat) ({ cls := "SectionDesk$CheckOuts", name := "has", desc := "(I)Z" } : MethodName)) ∈ GL := gl_of 1180 (by decide +kernel) (by decide +kernel)
theorem gw_1072 : (Cond.methodLink "SectionDesk" (194 : Nat) ({ cls := "SectionDesk$CheckOuts", name := "fact", desc := "(II)I" } : MethodName)) ∈ GL := gl_of 1181 (by decide +kernel) (by decide +kernel)
theorem gw_1073 : (Cond.methodLink "SectionDesk" (197 : Nat) ({ cls := "SectionDesk$Desk", name := "countEdited", desc := "(I)I" } : MethodName)) ∈ GL := gl_of 1182 (by decide +kernel) (by decide +kernel)
theorem gw_1077 : (Cond.methodLink "SectionDeskLaw" (71 : Nat) ({ cls := "SectionDesk", name := "holders", desc := "(I)I" } : MethodName)) ∈ GL := gl_of 1186 (by decide +kernel) (by decide +kernel)
theorem gw_1078 : (Cond.instanceMethod ({ cls := "SectionDesk", name := "holders", desc := "(I)I" } : MethodName)) ∈ GL := gl_of 1187 (by decide +kernel) (by decide +kernel)
theorem gw_1079 : (Cond.selects "SectionDesk" ({ cls := "SectionDesk", name := "holders", desc := "(I)I" } : MethodName) ({ cls := "SectionDesk", name := "holders", desc := "(I)I" } : MethodName)) ∈ GL := gl_of 1188 (by decide +kernel) (by decide +kernel)
theorem gw_1080 : (Cond.code ({ cls := "SectionDesk", name := "holders", desc := "(I)I" } : MethodName) prog_1_method_20_code (2 : Nat) (Option.some FieldType.int)) ∈ GL := gl_of 1189 (by decide +kernel) (by decide +kernel)
theorem gw_1081 : (Cond.methodLink "SectionDesk" (200 : Nat) ({ cls := "SectionDesk$Desk", name := "holdersOf", desc := "(I)I" } : MethodName)) ∈ GL := gl_of 1190 (by decide +kernel) (by decide +kernel)
theorem gw_1082 : (Cond.instanceMethod ({ cls := "SectionDesk$Desk", name := "holdersOf", desc := "(I)I" } : MethodName)) ∈ GL := gl_of 1191 (by decide +kernel) (by decide +kernel)
theorem gw_1083 : (Cond.selects "SectionDesk$Desk" ({ cls := "SectionDesk$Desk", name := "holdersOf", desc := "(I)I" } : MethodName) ({ cls := "SectionDesk$Desk", name := "holdersOf", desc := "(I)I" } : MethodName)) ∈ GL := gl_of 1192 (by decide +kernel) (by decide +kernel)
theorem gw_1084 : (Cond.code ({ cls := "SectionDesk$Desk", name := "holdersOf", desc := "(I)I" } : MethodName) prog_3_method_44_code (4 : Nat) (Option.some FieldType.int)) ∈ GL := gl_of 1193 (by decide +kernel) (by decide +kernel)
theorem gw_1088 : (Cond.methodLink "SectionDeskLaw" (74 : Nat) ({ cls := "SectionDesk", name := "ifBroken", desc := "(I)I" } : MethodName)) ∈ GL := gl_of 1197 (by decide +kernel) (by decide +kernel)
theorem gw_1089 : (Cond.instanceMethod ({ cls := "SectionDesk", name := "ifBroken", desc := "(I)I" } : MethodName)) ∈ GL := gl_of 1198 (by decide +kernel) (by decide +kernel)
theorem gw_1090 : (Cond.selects "SectionDesk" ({ cls := "SectionDesk", name := "ifBroken", desc := "(I)I" } : MethodName) ({ cls := "SectionDesk", name := "ifBroken", desc := "(I)I" } : MethodName)) ∈ GL := gl_of 1199 (by decide +kernel) (by decide +kernel)
theorem gw_1091 : (Cond.code ({ cls := "SectionDesk", name := "ifBroken", desc := "(I)I" } : MethodName) prog_1_method_21_code (2 : Nat) (Option.some FieldType.int)) ∈ GL := gl_of 1200 (by decide +kernel) (by decide +kernel)
theorem gw_1092 : (Cond.methodLink "SectionDesk" (203 : Nat) ({ cls := "SectionDesk$CheckOuts", name := "isHeld", desc := "(I)Z" } : MethodName)) ∈ GL := gl_of 1201 (by decide +kernel) (by decide +kernel)
theorem gw_1093 : (Cond.methodLink "SectionDesk" (209 : Nat) ({ cls := "SectionDesk$CheckOuts", name := "lose", desc := "(I)V" } : MethodName)) ∈ GL := gl_of 1202 (by decide +kernel) (by decide +kernel)
theorem gw_1094 : (Cond.methodLink "SectionDesk" (212 : Nat) ({ cls := "SectionDesk$Desk", name := "serve", desc := "()I" } : MethodName)) ∈ GL := gl_of 1203 (by decide +kernel) (by decide +kernel)
theorem gw_1098 : (Cond.methodLink "SectionDeskLaw" (77 : Nat) ({ cls := "SectionDesk", name := "grantedAt", desc := "(I)I" } : MethodName)) ∈ GL := gl_of 1207 (by decide +kernel) (by decide +kernel)
theorem gw_1099 : (Cond.instanceMethod ({ cls := "SectionDesk", name := "grantedAt", desc := "(I)I" } : MethodName)) ∈ GL := gl_of 1208 (by decide +kernel) (by decide +kernel)
theorem gw_1100 : (Cond.selects "SectionDesk" ({ cls := "SectionDesk", name := "grantedAt", desc := "(I)I" } : MethodName) ({ cls := "SectionDesk", name := "grantedAt", desc := "(I)I" } : MethodName)) ∈ GL := gl_of 1209 (by decide +kernel) (by decide +kernel)
theorem gw_1101 : (Cond.code ({ cls := "SectionDesk", name := "grantedAt", desc := "(I)I" } : MethodName) prog_1_method_22_code (2 : Nat) (Option.some FieldType.int)) ∈ GL := gl_of 1210 (by decide +kernel) (by decide +kernel)
theorem gw_1102 : (Cond.methodLink "SectionDesk" (223 : Nat) ({ cls := "SectionDesk$Queue", name := "placeOf", desc := "(I)I" } : MethodName)) ∈ GL := gl_of 1211 (by decide +kernel) (by decide +kernel)
theorem gw_1106 : (Cond.methodLink "SectionDeskLaw" (80 : Nat) ({ cls := "SectionDesk", name := "waitsFor", desc := "(I)I" } : MethodName)) ∈ GL := gl_of 1215 (by decide +kernel) (by decide +kernel)
theorem gw_1107 : (Cond.instanceMethod ({ cls := "SectionDesk", name := "waitsFor", desc := "(I)I" } : MethodName)) ∈ GL := gl_of 1216 (by decide +kernel) (by decide +kernel)
theorem gw_1108 : (Cond.selects "SectionDesk" ({ cls := "SectionDesk", name := "waitsFor", desc := "(I)I" } : MethodName) ({ cls := "SectionDesk", name := "waitsFor", desc := "(I)I" } : MethodName)) ∈ GL := gl_of 1217 (by decide +kernel) (by decide +kernel)
theorem gw_1109 : (Cond.code ({ cls := "SectionDesk", name := "waitsFor", desc := "(I)I" } : MethodName) prog_1_method_23_code (2 : Nat) (Option.some FieldType.int)) ∈ GL := gl_of 1218 (by decide +kernel) (by decide +kernel)
theorem gw_1110 : (Cond.methodLink "SectionDesk" (231 : Nat) ({ cls := "SectionDesk$Desk", name := "usersBefore", desc := "(I)I" } : MethodName)) ∈ GL := gl_of 1219 (by decide +kernel) (by decide +kernel)
theorem gw_1111 : (Cond.instanceMethod ({ cls := "SectionDesk$Desk", name := "usersBefore", desc := "(I)I" } : MethodName)) ∈ GL := gl_of 1220 (by decide +kernel) (by decide +kernel)
theorem gw_1112 : (Cond.selects "SectionDesk$Desk" ({ cls := "SectionDesk$Desk", name := "usersBefore", desc := "(I)I" } : MethodName) ({ cls := "SectionDesk$Desk", name := "usersBefore", desc := "(I)I" } : MethodName)) ∈ GL := gl_of 1221 (by decide +kernel) (by decide +kernel)
theorem gw_1113 : (Cond.code ({ cls := "SectionDesk$Desk", name := "usersBefore", desc := "(I)I" } : MethodName) prog_3_method_29_code (2 : Nat) (Option.some FieldType.int)) ∈ GL := gl_of 1222 (by decide +kernel) (by decide +kernel)
theorem gw_1117 : (Cond.methodLink "SectionDeskLaw" (83 : Nat) ({ cls := "SectionDesk", name := "entry", desc := "(II)I" } : MethodName)) ∈ GL := gl_of 1226 (by decide +kernel) (by decide +kernel)
theorem gw_1118 : (Cond.instanceMethod ({ cls := "SectionDesk", name := "entry", desc := "(II)I" } : MethodName)) ∈ GL := gl_of 1227 (by decide +kernel) (by decide +kernel)
theorem gw_1119 : (Cond.selects "SectionDesk" ({ cls := "SectionDesk", name := "entry", desc := "(II)I" } : MethodName) ({ cls := "SectionDesk", name := "entry", desc := "(II)I" } : MethodName)) ∈ GL := gl_of 1228 (by decide +kernel) (by decide +kernel)
theorem gw_1120 : (Cond.code ({ cls := "SectionDesk", name := "entry", desc := "(II)I" } : MethodName) prog_1_method_25_code (4 : Nat) (Option.some FieldType.int)) ∈ GL := gl_of 1229 (by decide +kernel) (by decide +kernel)
theorem gw_1121 : (Cond.methodLink "SectionDesk" (243 : Nat) ({ cls := "SectionDesk$History", name := "fact", desc := "(II)I" } : MethodName)) ∈ GL := gl_of 1230 (by decide +kernel) (by decide +kernel)
theorem gw_1125 : (Cond.methodLink "SectionDeskLaw" (86 : Nat) ({ cls := "SectionDesk", name := "blame", desc := "(II)I" } : MethodName)) ∈ GL := gl_of 1234 (by decide +kernel) (by decide +kernel)
theorem gw_1126 : (Cond.instanceMethod ({ cls := "SectionDesk", name := "blame", desc := "(II)I" } : MethodName)) ∈ GL := gl_of 1235 (by decide +kernel) (by decide +kernel)
theorem gw_1127 : (Cond.selects "SectionDesk" ({ cls := "SectionDesk", name := "blame", desc := "(II)I" } : MethodName) ({ cls := "SectionDesk", name := "blame", desc := "(II)I" } : MethodName)) ∈ GL := gl_of 1236 (by decide +kernel) (by decide +kernel)
theorem gw_1128 : (Cond.code ({ cls := "SectionDesk", name := "blame", desc := "(II)I" } : MethodName) prog_1_method_26_code (3 : Nat) (Option.some FieldType.int)) ∈ GL := gl_of 1237 (by decide +kernel) (by decide +kernel)
theorem gw_1129 : (Cond.methodLink "SectionDesk" (244 : Nat) ({ cls := "SectionDesk$History", name := "latestUserOf", desc := "(II)I" } : MethodName)) ∈ GL := gl_of 1238 (by decide +kernel) (by decide +kernel)
theorem gw_1130 : (Cond.instanceMethod ({ cls := "SectionDesk$History", name := "latestUserOf", desc := "(II)I" } : MethodName)) ∈ GL := gl_of 1239 (by decide +kernel) (by decide +kernel)
theorem gw_1131 : (Cond.selects "SectionDesk$History" ({ cls := "SectionDesk$History", name := "latestUserOf", desc := "(II)I" } : MethodName) ({ cls := "SectionDesk$History", name := "latestUserOf", desc := "(II)I" } : MethodName)) ∈ GL := gl_of 1240 (by decide +kernel) (by decide +kernel)
theorem gw_1132 : (Cond.code ({ cls := "SectionDesk$History", name := "latestUserOf", desc := "(II)I" } : MethodName) prog_4_method_8_code (4 : Nat) (Option.some FieldType.int)) ∈ GL := gl_of 1241 (by decide +kernel) (by decide +kernel)
theorem gw_1136 : (Cond.methodLink "SectionDeskLaw" (89 : Nat) ({ cls := "SectionDesk", name := "lineAt", desc := "(III)I" } : MethodName)) ∈ GL := gl_of 1245 (by decide +kernel) (by decide +kernel)
theorem gw_1137 : (Cond.instanceMethod ({ cls := "SectionDesk", name := "lineAt", desc := "(III)I" } : MethodName)) ∈ GL := gl_of 1246 (by decide +kernel) (by decide +kernel)
theorem gw_1138 : (Cond.selects "SectionDesk" ({ cls := "SectionDesk", name := "lineAt", desc := "(III)I" } : MethodName) ({ cls := "SectionDesk", name := "lineAt", desc := "(III)I" } : MethodName)) ∈ GL := gl_of 1247 (by decide +kernel) (by decide +kernel)
theorem gw_1139 : (Cond.code ({ cls := "SectionDesk", name := "lineAt", desc := "(III)I" } : MethodName) prog_1_method_27_code (4 : Nat) (Option.some FieldType.int)) ∈ GL := gl_of 1248 (by decide +kernel) (by decide +kernel)
theorem gw_1140 : (Cond.methodLink "SectionDesk" (247 : Nat) ({ cls := "SectionDesk$Desk", name := "valueAtEndOf", desc := "(II)I" } : MethodName)) ∈ GL := gl_of 1249 (by decide +kernel) (by decide +kernel)
theorem gw_1141 : (Cond.instanceMethod ({ cls := "SectionDesk$Desk", name := "valueAtEndOf", desc := "(II)I" } : MethodName)) ∈ GL := gl_of 1250 (by decide +kernel) (by decide +kernel)
theorem gw_1142 : (Cond.selects "SectionDesk$Desk" ({ cls := "SectionDesk$Desk", name := "valueAtEndOf", desc := "(II)I" } : MethodName) ({ cls := "SectionDesk$Desk", name := "valueAtEndOf", desc := "(II)I" } : MethodName)) ∈ GL := gl_of 1251 (by decide +kernel) (by decide +kernel)
theorem gw_1143 : (Cond.code ({ cls := "SectionDesk$Desk", name := "valueAtEndOf", desc := "(II)I" } : MethodName) prog_3_method_18_code (3 : Nat) (Option.some FieldType.int)) ∈ GL := gl_of 1252 (by decide +kernel) (by decide +kernel)
theorem gw_1153 : (Cond.methodLink "SectionDeskLaw" (92 : Nat) ({ cls := "SectionDesk", name := "revert", desc := "(II)I" } : MethodName)) ∈ GL := gl_of 1262 (by decide +kernel) (by decide +kernel)
theorem gw_1154 : (Cond.instanceMethod ({ cls := "SectionDesk", name := "revert", desc := "(II)I" } : MethodName)) ∈ GL := gl_of 1263 (by decide +kernel) (by decide +kernel)
theorem gw_1155 : (Cond.selects "SectionDesk" ({ cls := "SectionDesk", name := "revert", desc := "(II)I" } : MethodName) ({ cls := "SectionDesk", name := "revert", desc := "(II)I" } : MethodName)) ∈ GL := gl_of 1264 (by decide +kernel) (by decide +kernel)
theorem gw_1156 : (Cond.code ({ cls := "SectionDesk", name := "revert", desc := "(II)I" } : MethodName) prog_1_method_28_code (3 : Nat) (Option.some FieldType.int)) ∈ GL := gl_of 1265 (by decide +kernel) (by decide +kernel)
theorem gw_1157 : (Cond.methodLink "SectionDesk" (250 : Nat) ({ cls := "SectionDesk$Desk", name := "revertFault", desc := "(II)I" } : MethodName)) ∈ GL := gl_of 1266 (by decide +kernel) (by decide +kernel)
theorem gw_1158 : (Cond.instanceMethod ({ cls := "SectionDesk$Desk", name := "revertFault", desc := "(II)I" } : MethodName)) ∈ GL := gl_of 1267 (by decide +kernel) (by decide +kernel)
theorem gw_1159 : (Cond.selects "SectionDesk$Desk" ({ cls := "SectionDesk$Desk", name := "revertFault", desc := "(II)I" } : MethodName) ({ cls := "SectionDesk$Desk", name := "revertFault", desc := "(II)I" } : MethodName)) ∈ GL := gl_of 1268 (by decide +kernel) (by decide +kernel)
theorem gw_1160 : (Cond.code ({ cls := "SectionDesk$Desk", name := "revertFault", desc := "(II)I" } : MethodName) prog_3_method_19_code (3 : Nat) (Option.some FieldType.int)) ∈ GL := gl_of 1269 (by decide +kernel) (by decide +kernel)
theorem gw_1161 : (Cond.methodLink "SectionDesk" (253 : Nat) ({ cls := "SectionDesk$Desk", name := "revertNow", desc := "(II)I" } : MethodName)) ∈ GL := gl_of 1270 (by decide +kernel) (by decide +kernel)
theorem gw_1162 : (Cond.instanceMethod ({ cls := "SectionDesk$Desk", name := "revertNow", desc := "(II)I" } : MethodName)) ∈ GL := gl_of 1271 (by decide +kernel) (by decide +kernel)
theorem gw_1163 : (Cond.selects "SectionDesk$Desk" ({ cls := "SectionDesk$Desk", name := "revertNow", desc := "(II)I" } : MethodName) ({ cls := "SectionDesk$Desk", name := "revertNow", desc := "(II)I" } : MethodName)) ∈ GL := gl_of 1272 (by decide +kernel) (by decide +kernel)
theorem gw_1164 : (Cond.code ({ cls := "SectionDesk$Desk", name := "revertNow", desc := "(II)I" } : MethodName) prog_3_method_20_code (5 : Nat) (Option.some FieldType.int)) ∈ GL := gl_of 1273 (by decide +kernel) (by decide +kernel)
theorem gw_1168 : (Cond.methodLink "SectionDeskLaw" (95 : Nat) ({ cls := "SectionDesk", name := "waitingAt", desc := "(II)I" } : MethodName)) ∈ GL := gl_of 1277 (by decide +kernel) (by decide +kernel)
theorem gw_1169 : (Cond.instanceMethod ({ cls := "SectionDesk", name := "waitingAt", desc := "(II)I" } : MethodName)) ∈ GL := gl_of 1278 (by decide +kernel) (by decide +kernel)
theorem gw_1170 : (Cond.selects "SectionDesk" ({ cls := "SectionDesk", name := "waitingAt", desc := "(II)I" } : MethodName) ({ cls := "SectionDesk", name := "waitingAt", desc := "(II)I" } : MethodName)) ∈ GL := gl_of 1279 (by decide +kernel) (by decide +kernel)
theorem gw_1171 : (Cond.code ({ cls := "SectionDesk", name := "waitingAt", desc := "(II)I" } : MethodName) prog_1_method_30_code (4 : Nat) (Option.some FieldType.int)) ∈ GL := gl_of 1280 (by decide +kernel) (by decide +kernel)
theorem gw_1172 : (Cond.methodLink "SectionDesk" (257 : Nat) ({ cls := "SectionDesk$Queue", name := "fact", desc := "(II)I" } : MethodName)) ∈ GL := gl_of 1281 (by decide +kernel) (by decide +kernel)
theorem gw_1176 : (Cond.methodLink "SectionDeskLaw" (98 : Nat) ({ cls := "SectionDesk", name := "pass", desc := "(I)I" } : MethodName)) ∈ GL := gl_of 1285 (by decide +kernel) (by decide +kernel)
theorem gw_1177 : (Cond.instanceMethod ({ cls := "SectionDesk", name := "pass", desc := "(I)I" } : MethodName)) ∈ GL := gl_of 1286 (by decide +kernel) (by decide +kernel)
theorem gw_1178 : (Cond.selects "SectionDesk" ({ cls := "SectionDesk", name := "pass", desc := "(I)I" } : MethodName) ({ cls := "SectionDesk", name := "pass", desc := "(I)I" } : MethodName)) ∈ GL := gl_of 1287 (by decide +kernel) (by decide +kernel)
theorem gw_1179 : (Cond.code ({ cls := "SectionDesk", name := "pass", desc := "(I)I" } : MethodName) prog_1_method_31_code (2 : Nat) (Option.some FieldType.int)) ∈ GL := gl_of 1288 (by decide +kernel) (by decide +kernel)
theorem gw_1183 : (Cond.methodLink "SectionDeskLaw" (101 : Nat) ({ cls := "SectionDesk", name := "useBits", desc := "(I)I" } : MethodName)) ∈ GL := gl_of 1292 (by decide +kernel) (by decide +kernel)
theorem gw_1184 : (Cond.instanceMethod ({ cls := "SectionDesk", name := "useBits", desc := "(I)I" } : MethodName)) ∈ GL := gl_of 1293 (by decide +kernel) (by decide +kernel)
theorem gw_1185 : (Cond.selects "SectionDesk" ({ cls := "SectionDesk", name := "useBits", desc := "(I)I" } : MethodName) ({ cls := "SectionDesk", name := "useBits", desc := "(I)I" } : MethodName)) ∈ GL := gl_of 1294 (by decide +kernel) (by decide +kernel)
theorem gw_1186 : (Cond.code ({ cls := "SectionDesk", name := "useBits", desc := "(I)I" } : MethodName) prog_1_method_32_code (2 : Nat) (Option.some FieldType.int)) ∈ GL := gl_of 1295 (by decide +kernel) (by decide +kernel)
theorem gw_1187 : (Cond.methodLink "SectionDesk" (261 : Nat) ({ cls := "SectionDesk", name := "isUser", desc := "(I)Z" } : MethodName)) ∈ GL := gl_of 1296 (by decide +kernel) (by decide +kernel)
theorem gw_1188 : (Cond.methodLink "SectionDesk" (264 : Nat) ({ cls := "SectionDesk$Desk", name := "heldTicksOf", desc := "(I)I" } : MethodName)) ∈ GL := gl_of 1297 (by decide +kernel) (by decide +kernel)
theorem gw_1189 : (Cond.instanceMethod ({ cls := "SectionDesk$Desk", name := "heldTicksOf", desc := "(I)I" } : MethodName)) ∈ GL := gl_of 1298 (by decide +kernel) (by decide +kernel)
theorem gw_1190 : (Cond.selects "SectionDesk$Desk" ({ cls := "SectionDesk$Desk", name := "heldTicksOf", desc := "(I)I" } : MethodName) ({ cls := "SectionDesk$Desk", name := "heldTicksOf", desc := "(I)I" } : MethodName)) ∈ GL := gl_of 1299 (by decide +kernel) (by decide +kernel)
theorem gw_1191 : (Cond.code ({ cls := "SectionDesk$Desk", name := "heldTicksOf", desc := "(I)I" } : MethodName) prog_3_method_56_code (2 : Nat) (Option.some FieldType.int)) ∈ GL := gl_of 1300 (by decide +kernel) (by decide +kernel)
theorem gw_1192 : (Cond.methodLink "SectionDesk" (267 : Nat) ({ cls := "SectionDesk", name := "floatBits", desc := "(F)I" } : MethodName)) ∈ GL := gl_of 1301 (by decide +kernel) (by decide +kernel)
theorem gw_1193 : (Cond.static ({ cls := "SectionDesk", name := "floatBits", desc := "(F)I" } : MethodName)) ∈ GL := gl_of 1302 (by decide +kernel) (by decide +kernel)
theorem gw_1194 : (Cond.code ({ cls := "SectionDesk", name := "floatBits", desc := "(F)I" } : MethodName) prog_1_method_51_code (4 : Nat) (Option.some FieldType.int)) ∈ GL := gl_of 1303 (by decide +kernel) (by decide +kernel)
theorem gw_1200 : (Cond.methodLink "SectionDeskLaw" (104 : Nat) ({ cls := "SectionDesk", name := "append", desc := "(I)I" } : MethodName)) ∈ GL := gl_of 1309 (by decide +kernel) (by decide +kernel)
theorem gw_1201 : (Cond.instanceMethod ({ cls := "SectionDesk", name := "append", desc := "(I)I" } : MethodName)) ∈ GL := gl_of 1310 (by decide +kernel) (by decide +kernel)
theorem gw_1202 : (Cond.selects "SectionDesk" ({ cls := "SectionDesk", name := "append", desc := "(I)I" } : MethodName) ({ cls := "SectionDesk", name := "append", desc := "(I)I" } : MethodName)) ∈ GL := gl_of 1311 (by decide +kernel) (by decide +kernel)
theorem gw_1203 : (Cond.code ({ cls := "SectionDesk", name := "append", desc := "(I)I" } : MethodName) prog_1_method_33_code (2 : Nat) (Option.some FieldType.int)) ∈ GL := gl_of 1312 (by decide +kernel) (by decide +kernel)
theorem gw_1204 : (Cond.methodLink "SectionDesk" (274 : Nat) ({ cls := "SectionDesk$OrderText", name := "put", desc := "(I)I" } : MethodName)) ∈ GL := gl_of 1313 (by decide +kernel) (by decide +kernel)
theorem gw_1205 : (Cond.instanceMethod ({ cls := "SectionDesk$OrderText", name := "put", desc := "(I)I" } : MethodName)) ∈ GL := gl_of 1314 (by decide +kernel) (by decide +kernel)
theorem gw_1206 : (Cond.selects "SectionDesk$OrderText" ({ cls := "SectionDesk$OrderText", name := "put", desc := "(I)I" } : MethodName) ({ cls := "SectionDesk$OrderText", name := "put", desc := "(I)I" } : MethodName)) ∈ GL := gl_of 1315 (by decide +kernel) (by decide +kernel)
theorem gw_1207 : (Cond.code ({ cls := "SectionDesk$OrderText", name := "put", desc := "(I)I" } : MethodName) prog_5_method_2_code (2 : Nat) (Option.some FieldType.int)) ∈ GL := gl_of 1316 (by decide +kernel) (by decide +kernel)
theorem gw_1211 : (Cond.methodLink "SectionDeskLaw" (107 : Nat) ({ cls := "SectionDesk", name := "outline", desc := "(I)I" } : MethodName)) ∈ GL := gl_of 1320 (by decide +kernel) (by decide +kernel)
theorem gw_1212 : (Cond.instanceMethod ({ cls := "SectionDesk", name := "outline", desc := "(I)I" } : MethodName)) ∈ GL := gl_of 1321 (by decide +kernel) (by decide +kernel)
theorem gw_1213 : (Cond.selects "SectionDesk" ({ cls := "SectionDesk", name := "outline", desc := "(I)I" } : MethodName) ({ cls := "SectionDesk", name := "outline", desc := "(I)I" } : MethodName)) ∈ GL := gl_of 1322 (by decide +kernel) (by decide +kernel)
theorem gw_1214 : (Cond.code ({ cls := "SectionDesk", name := "outline", desc := "(I)I" } : MethodName) prog_1_method_36_code (2 : Nat) (Option.some FieldType.int)) ∈ GL := gl_of 1323 (by decide +kernel) (by decide +kernel)
theorem gw_1216 : (Cond.static ({ cls := "SectionDesk$Outline", name := "putSection", desc := "(LSectionDesk$Outline;LSectionDesk$Tree;II)V" } : MethodName)) ∈ GL := gl_of 1325 (by decide +kernel) (by decide +kernel)
theorem gw_1217 : (Cond.code ({ cls := "SectionDesk$Outline", name := "putSection", desc := "(LSectionDesk$Outline;LSectionDesk$Tree;II)V" } : MethodName) prog_6_method_5_code (6 : Nat) (Option.none : Option FieldType)) ∈ GL := gl_of 1326 (by decide +kernel) (by decide +kernel)
theorem gw_1218 : (Cond.methodLink "SectionDesk$Outline" (27 : Nat) ({ cls := "SectionDesk$Outline", name := "putNumber", desc := "(I)V" } : MethodName)) ∈ GL := gl_of 1327 (by decide +kernel) (by decide +kernel)
theorem gw_1220 : (Cond.instanceMethod ({ cls := "SectionDesk$Outline", name := "putNumber", desc := "(I)V" } : MethodName)) ∈ GL := gl_of 1329 (by decide +kernel) (by decide +kernel)
theorem gw_1221 : (Cond.code ({ cls := "SectionDesk$Outline", name := "putNumber", desc := "(I)V" } : MethodName) prog_6_method_4_code (2 : Nat) (Option.none : Option FieldType)) ∈ GL := gl_of 1330 (by decide +kernel) (by decide +kernel)
theorem gw_1227 : (Cond.methodLink "SectionDesk$Outline" (30 : Nat) ({ cls := "SectionDesk$Tree", name := "childrenOf", desc := "(I)I" } : MethodName)) ∈ GL := gl_of 1336 (by decide +kernel) (by decide +kernel)
theorem gw_1228 : (Cond.methodLink "SectionDesk$Outline" (36 : Nat) ({ cls := "SectionDesk$Tree", name := "childAt", desc := "(II)I" } : MethodName)) ∈ GL := gl_of 1337 (by decide +kernel) (by decide +kernel)
theorem gw_1229 : (Cond.methodLink "SectionDesk$Outline" (40 : Nat) ({ cls := "SectionDesk$Outline", name := "putSection", desc := "(LSectionDesk$Outline;LSectionDesk$Tree;II)V" } : MethodName)) ∈ GL := gl_of 1338 (by decide +kernel) (by decide +kernel)
theorem gw_1230 : (Cond.methodLink "SectionDesk" (291 : Nat) ({ cls := "SectionDesk$Outline", name := "byteAt", desc := "(I)I" } : MethodName)) ∈ GL := gl_of 1339 (by decide +kernel) (by decide +kernel)
theorem gw_1231 : (Cond.instanceMethod ({ cls := "SectionDesk$Outline", name := "byteAt", desc := "(I)I" } : MethodName)) ∈ GL := gl_of 1340 (by decide +kernel) (by decide +kernel)
theorem gw_1232 : (Cond.selects "SectionDesk$Outline" ({ cls := "SectionDesk$Outline", name := "byteAt", desc := "(I)I" } : MethodName) ({ cls := "SectionDesk$Outline", name := "byteAt", desc := "(I)I" } : MethodName)) ∈ GL := gl_of 1341 (by decide +kernel) (by decide +kernel)
theorem gw_1233 : (Cond.code ({ cls := "SectionDesk$Outline", name := "byteAt", desc := "(I)I" } : MethodName) prog_6_method_2_code (3 : Nat) (Option.some FieldType.int)) ∈ GL := gl_of 1342 (by decide +kernel) (by decide +kernel)
theorem gw_1237 : (Cond.methodLink "SectionDeskLaw" (110 : Nat) ({ cls := "SectionDesk", name := "undo", desc := "()I" } : MethodName)) ∈ GL := gl_of 1346 (by decide +kernel) (by decide +kernel)
theorem gw_1238 : (Cond.instanceMethod ({ cls := "SectionDesk", name := "undo", desc := "()I" } : MethodName)) ∈ GL := gl_of 1347 (by decide +kernel) (by decide +kernel)
theorem gw_1239 : (Cond.selects "SectionDesk" ({ cls := "SectionDesk", name := "undo", desc := "()I" } : MethodName) ({ cls := "SectionDesk", name := "undo", desc := "()I" } : MethodName)) ∈ GL := gl_of 1348 (by decide +kernel) (by decide +kernel)
theorem gw_1240 : (Cond.code ({ cls := "SectionDesk", name := "undo", desc := "()I" } : MethodName) prog_1_method_37_code (1 : Nat) (Option.some FieldType.int)) ∈ GL := gl_of 1349 (by decide +kernel) (by decide +kernel)
theorem gw_1241 : (Cond.methodLink "SectionDesk" (295 : Nat) ({ cls := "SectionDesk$SavedStates", name := "pop", desc := "(LSectionDesk$Desk;)V" } : MethodName)) ∈ GL := gl_of 1350 (by decide +kernel) (by decide +kernel)
theorem gw_1242 : (Cond.instanceMethod ({ cls := "SectionDesk$SavedStates", name := "pop", desc := "(LSectionDesk$Desk;)V" } : MethodName)) ∈ GL := gl_of 1351 (by decide +kernel) (by decide +kernel)
theorem gw_1243 : (Cond.selects "SectionDesk$SavedStates" ({ cls := "SectionDesk$SavedStates", name := "pop", desc := "(LSectionDesk$Desk;)V" } : MethodName) ({ cls := "SectionDesk$SavedStates", name := "pop", desc := "(LSectionDesk$Desk;)V" } : MethodName)) ∈ GL := gl_of 1352 (by decide +kernel) (by decide +kernel)
theorem gw_1244 : (Cond.code ({ cls := "SectionDesk$SavedStates", name := "pop", desc := "(LSectionDesk$Desk;)V" } : MethodName) prog_8_method_4_code (2 : Nat) (Option.none : Option FieldType)) ∈ GL := gl_of 1353 (by decide +kernel) (by decide +kernel)
theorem fw_X8_36 : fldw RX8 36 8 4 "outlined" "" := ⟨RX8, TX8, 5, rfl, by decide, inX8, rfl, rfl, Or.inl gw_218⟩
theorem fw_X8_172 : fldw RX8 172 1 1 "outs" "SectionDesk" := ⟨RX1, TX1, 7, rfl, by decide, inX1, rfl, rfl, Or.inr nw_11⟩
theorem fw_X8_228 : fldw RX8 228 1 6 "tick" "SectionDesk" := ⟨RX1, TX1, 7, rfl, by decide, inX1, rfl, rfl, Or.inr nw_14⟩
theorem fw_X8_286 : fldw RX8 286 4 1 "length" "SectionDesk" := ⟨RX4, TX4, 2, rfl, by decide, inX4, rfl, rfl, Or.inr nw_21⟩
theorem kd_X1_addFault : cwd yX1_addFault cX1_addFault 2 (some .int) 1 := ⟨gw_2, gw_745, by decide +kernel, by decide +kernel, by decide +kernel⟩
theorem kv_X1_addFault : cwv yX1_addFault := ⟨gw_743, gw_744⟩
theorem kd_X1_cancelNow : cwd yX1_cancelNow cX1_cancelNow 2 (some .int) 1 := ⟨gw_2, gw_998, by decide +kernel, by decide +kernel, by decide +kernel⟩
theorem kv_X1_cancelNow : cwv yX1_cancelNow := ⟨gw_996, gw_997⟩
theorem kd_X1_heldTicksOf : cwd yX1_heldTicksOf cX1_heldTicksOf 2 (some .int) 1 := ⟨gw_2, gw_1191, by decide +kernel, by decide +kernel, by decide +kernel⟩
theorem kv_X1_heldTicksOf : cwv yX1_heldTicksOf := ⟨gw_1189, gw_1190⟩
theorem kd_X1_holdersOf : cwd yX1_holdersOf cX1_holdersOf 4 (some .int) 1 := ⟨gw_2, gw_1084, by decide +kernel, by decide +kernel, by decide +kernel⟩
theorem kv_X1_holdersOf : cwv yX1_holdersOf := ⟨gw_1082, gw_1083⟩
theorem kd_X1_moveFault : cwd yX1_moveFault cX1_moveFault 5 (some .int) 2 := ⟨gw_2, gw_916, by decide +kernel, by decide +kernel, by decide +kernel⟩
theorem kv_X1_moveFault : cwv yX1_moveFault := ⟨gw_914, gw_915⟩
theorem kd_X1_removeFault : cwd yX1_removeFault cX1_removeFault 2 (some .int) 1 := ⟨gw_2, gw_886, by decide +kernel, by decide +kernel, by decide +kernel⟩
theorem kv_X1_removeFault : cwv yX1_removeFault := ⟨gw_884, gw_885⟩
theorem kd_X1_removeNow : cwd yX1_removeNow cX1_removeNow 3 (some .int) 1 := ⟨gw_2, gw_894, by decide +kernel, by decide +kernel, by decide +kernel⟩
theorem kv_X1_removeNow : cwv yX1_removeNow := ⟨gw_892, gw_893⟩
theorem kd_X1_renewFault : cwd yX1_renewFault cX1_renewFault 5 (some .int) 2 := ⟨gw_2, gw_1009, by decide +kernel, by decide +kernel, by decide +kernel⟩
theorem kv_X1_renewFault : cwv yX1_renewFault := ⟨gw_1007, gw_1008⟩
theorem kd_X1_renewNow : cwd yX1_renewNow cX1_renewNow 3 (some .int) 2 := ⟨gw_2, gw_1013, by decide +kernel, by decide +kernel, by decide +kernel⟩
theorem kv_X1_renewNow : cwv yX1_renewNow := ⟨gw_1011, gw_1012⟩
theorem kd_X1_revertFault : cwd yX1_revertFault cX1_revertFault 3 (some .int) 2 := ⟨gw_2, gw_1160, by decide +kernel, by decide +kernel, by decide +kernel⟩
theorem kv_X1_revertFault : cwv yX1_revertFault := ⟨gw_1158, gw_1159⟩
theorem kd_X1_revertNow : cwd yX1_revertNow cX1_revertNow 5 (some .int) 2 := ⟨gw_2, gw_1164, by decide +kernel, by decide +kernel, by decide +kernel⟩
theorem kv_X1_revertNow : cwv yX1_revertNow := ⟨gw_1162, gw_1163⟩
theorem kd_X1_usersBefore : cwd yX1_usersBefore cX1_usersBefore 2 (some .int) 1 := ⟨gw_2, gw_1113, by decide +kernel, by decide +kernel, by decide +kernel⟩
theorem kv_X1_usersBefore : cwv yX1_usersBefore := ⟨gw_1111, gw_1112⟩
theorem kd_X1_valueAtEndOf : cwd yX1_valueAtEndOf cX1_valueAtEndOf 3 (some .int) 2 := ⟨gw_2, gw_1143, by decide +kernel, by decide +kernel, by decide +kernel⟩
theorem kv_X1_valueAtEndOf : cwv yX1_valueAtEndOf := ⟨gw_1141, gw_1142⟩
theorem kd_X1_waitingFault : cwd yX1_waitingFault cX1_waitingFault 2 (some .int) 1 := ⟨gw_2, gw_994, by decide +kernel, by decide +kernel, by decide +kernel⟩
theorem kv_X1_waitingFault : cwv yX1_waitingFault := ⟨gw_992, gw_993⟩
theorem kd_X1_writeFault : cwd yX1_writeFault cX1_writeFault 5 (some .int) 3 := ⟨gw_2, gw_972, by decide +kernel, by decide +kernel, by decide +kernel⟩
theorem kv_X1_writeFault : cwv yX1_writeFault := ⟨gw_970, gw_971⟩
theorem kd_X1_writeNow : cwd yX1_writeNow cX1_writeNow 6 (some .int) 3 := ⟨gw_2, gw_976, by decide +kernel, by decide +kernel, by decide +kernel⟩
theorem kv_X1_writeNow : cwv yX1_writeNow := ⟨gw_974, gw_975⟩
theorem kd_X2_latestUserOf : cwd yX2_latestUserOf cX2_latestUserOf 4 (some .int) 2 := ⟨gw_7, gw_1132, by decide +kernel, by decide +kernel, by decide +kernel⟩
theorem kv_X2_latestUserOf : cwv yX2_latestUserOf := ⟨gw_1130, gw_1131⟩
theorem kd_X3_put : cwd yX3_put cX3_put 2 (some .int) 1 := ⟨gw_9, gw_1207, by decide +kernel, by decide +kernel, by decide +kernel⟩
theorem kv_X3_put : cwv yX3_put := ⟨gw_1205, gw_1206⟩
theorem kd_X4_byteAt : cwd yX4_byteAt cX4_byteAt 3 (some .int) 1 := ⟨gw_10, gw_1233, by decide +kernel, by decide +kernel, by decide +kernel⟩
theorem kv_X4_byteAt : cwv yX4_byteAt := ⟨gw_1231, gw_1232⟩
theorem kd_X4_putNumber : cwd yX4_putNumber cX4_putNumber 2 none 1 := ⟨gw_10, gw_1221, by decide +kernel, by decide +kernel, by decide +kernel⟩
theorem kv_X4_putNumber : cwv yX4_putNumber := ⟨gw_1220, gs_40⟩
theorem kd_X4_putSection : cwd yX4_putSection cX4_putSection 6 none 4 := ⟨gw_10, gw_1217, by decide +kernel, by decide +kernel, by decide +kernel⟩
theorem kd_X6_pop : cwd yX6_pop cX6_pop 2 none 1 := ⟨gw_8, gw_1244, by decide +kernel, by decide +kernel, by decide +kernel⟩
theorem kv_X6_pop : cwv yX6_pop := ⟨gw_1242, gw_1243⟩
theorem kd_X7_add : cwd yX7_add cX7_add 4 (some .int) 1 := ⟨gw_3, gw_864, by decide +kernel, by decide +kernel, by decide +kernel⟩
theorem kv_X7_add : cwv yX7_add := ⟨gw_862, gw_863⟩
theorem kd_X7_depthOf : cwd yX7_depthOf cX7_depthOf 2 (some .int) 1 := ⟨gw_3, gw_928, by decide +kernel, by decide +kernel, by decide +kernel⟩
theorem kv_X7_depthOf : cwv yX7_depthOf := ⟨gw_926, gw_927⟩
theorem kd_X7_move : cwd yX7_move cX7_move 5 none 2 := ⟨gw_3, gw_924, by decide +kernel, by decide +kernel, by decide +kernel⟩
theorem kv_X7_move : cwv yX7_move := ⟨gw_922, gw_923⟩
theorem kd_X8_addSection : cwd yX8_addSection cX8_addSection 2 (some .int) 1 := ⟨gw_1, gw_741, by decide +kernel, by decide +kernel, by decide +kernel⟩
theorem kv_X8_addSection : cwv yX8_addSection := ⟨gw_739, gw_740⟩
theorem kd_X8_append : cwd yX8_append cX8_append 2 (some .int) 1 := ⟨gw_1, gw_1203, by decide +kernel, by decide +kernel, by decide +kernel⟩
theorem kv_X8_append : cwv yX8_append := ⟨gw_1201, gw_1202⟩
theorem kd_X8_blame : cwd yX8_blame cX8_blame 3 (some .int) 2 := ⟨gw_1, gw_1128, by decide +kernel, by decide +kernel, by decide +kernel⟩
theorem kv_X8_blame : cwv yX8_blame := ⟨gw_1126, gw_1127⟩
theorem kd_X8_breakUp : cwd yX8_breakUp cX8_breakUp 2 (some .int) 1 := ⟨gw_1, gw_1024, by decide +kernel, by decide +kernel, by decide +kernel⟩
theorem kv_X8_breakUp : cwv yX8_breakUp := ⟨gw_1022, gw_1023⟩
theorem kd_X8_cancel : cwd yX8_cancel cX8_cancel 2 (some .int) 1 := ⟨gw_1, gw_990, by decide +kernel, by decide +kernel, by decide +kernel⟩
theorem kv_X8_cancel : cwv yX8_cancel := ⟨gw_988, gw_989⟩
theorem kd_X8_checkOut : cwd yX8_checkOut cX8_checkOut 3 (some .int) 2 := ⟨gw_1, gw_1070, by decide +kernel, by decide +kernel, by decide +kernel⟩
theorem kv_X8_checkOut : cwv yX8_checkOut := ⟨gw_1068, gw_1069⟩
theorem kd_X8_child : cwd yX8_child cX8_child 4 (some .int) 2 := ⟨gw_1, gw_950, by decide +kernel, by decide +kernel, by decide +kernel⟩
theorem kv_X8_child : cwv yX8_child := ⟨gw_948, gw_949⟩
theorem kd_X8_conflicts : cwd yX8_conflicts cX8_conflicts 2 (some .int) 1 := ⟨gw_1, gw_1055, by decide +kernel, by decide +kernel, by decide +kernel⟩
theorem kv_X8_conflicts : cwv yX8_conflicts := ⟨gw_1053, gw_1054⟩
theorem kd_X8_copied : cwd yX8_copied cX8_copied 6 (some .int) 4 := ⟨gw_1, gw_1045, by decide +kernel, by decide +kernel, by decide +kernel⟩
theorem kv_X8_copied : cwv yX8_copied := ⟨gw_1043, gw_1044⟩
theorem kd_X8_discard : cwd yX8_discard cX8_discard 2 (some .int) 1 := ⟨gw_1, gw_1031, by decide +kernel, by decide +kernel, by decide +kernel⟩
theorem kv_X8_discard : cwv yX8_discard := ⟨gw_1029, gw_1030⟩
theorem kd_X8_edit : cwd yX8_edit cX8_edit 5 (some .int) 4 := ⟨gw_1, gw_1038, by decide +kernel, by decide +kernel, by decide +kernel⟩
theorem kv_X8_edit : cwv yX8_edit := ⟨gw_1036, gw_1037⟩
theorem kd_X8_entry : cwd yX8_entry cX8_entry 4 (some .int) 2 := ⟨gw_1, gw_1120, by decide +kernel, by decide +kernel, by decide +kernel⟩
theorem kv_X8_entry : cwv yX8_entry := ⟨gw_1118, gw_1119⟩
theorem kd_X8_floatBits : cwd yX8_floatBits cX8_floatBits 4 (some .int) 1 := ⟨gw_1, gw_1194, by decide +kernel, by decide +kernel, by decide +kernel⟩
theorem kd_X8_giveBack : cwd yX8_giveBack cX8_giveBack 3 (some .int) 2 := ⟨gw_1, gw_1063, by decide +kernel, by decide +kernel, by decide +kernel⟩
theorem kv_X8_giveBack : cwv yX8_giveBack := ⟨gw_1061, gw_1062⟩
theorem kd_X8_grantedAt : cwd yX8_grantedAt cX8_grantedAt 2 (some .int) 1 := ⟨gw_1, gw_1101, by decide +kernel, by decide +kernel, by decide +kernel⟩
theorem kv_X8_grantedAt : cwv yX8_grantedAt := ⟨gw_1099, gw_1100⟩
theorem kd_X8_holders : cwd yX8_holders cX8_holders 2 (some .int) 1 := ⟨gw_1, gw_1080, by decide +kernel, by decide +kernel, by decide +kernel⟩
theorem kv_X8_holders : cwv yX8_holders := ⟨gw_1078, gw_1079⟩
theorem kd_X8_ifBroken : cwd yX8_ifBroken cX8_ifBroken 2 (some .int) 1 := ⟨gw_1, gw_1091, by decide +kernel, by decide +kernel, by decide +kernel⟩
theorem kv_X8_ifBroken : cwv yX8_ifBroken := ⟨gw_1089, gw_1090⟩
theorem kd_X8_line : cwd yX8_line cX8_line 3 (some .int) 2 := ⟨gw_1, gw_958, by decide +kernel, by decide +kernel, by decide +kernel⟩
theorem kv_X8_line : cwv yX8_line := ⟨gw_956, gw_957⟩
theorem kd_X8_lineAt : cwd yX8_lineAt cX8_lineAt 4 (some .int) 3 := ⟨gw_1, gw_1139, by decide +kernel, by decide +kernel, by decide +kernel⟩
theorem kv_X8_lineAt : cwv yX8_lineAt := ⟨gw_1137, gw_1138⟩
theorem kd_X8_moveSection : cwd yX8_moveSection cX8_moveSection 3 (some .int) 2 := ⟨gw_1, gw_912, by decide +kernel, by decide +kernel, by decide +kernel⟩
theorem kv_X8_moveSection : cwv yX8_moveSection := ⟨gw_910, gw_911⟩
theorem kd_X8_outline : cwd yX8_outline cX8_outline 2 (some .int) 1 := ⟨gw_1, gw_1214, by decide +kernel, by decide +kernel, by decide +kernel⟩
theorem kv_X8_outline : cwv yX8_outline := ⟨gw_1212, gw_1213⟩
theorem kd_X8_pass : cwd yX8_pass cX8_pass 2 (some .int) 1 := ⟨gw_1, gw_1179, by decide +kernel, by decide +kernel, by decide +kernel⟩
theorem kv_X8_pass : cwv yX8_pass := ⟨gw_1177, gw_1178⟩
theorem kd_X8_refuseFor : cwd yX8_refuseFor cX8_refuseFor 1 none 1 := ⟨gw_1, gw_760, by decide +kernel, by decide +kernel, by decide +kernel⟩
theorem kd_X8_removeSection : cwd yX8_removeSection cX8_removeSection 2 (some .int) 1 := ⟨gw_1, gw_882, by decide +kernel, by decide +kernel, by decide +kernel⟩
theorem kv_X8_removeSection : cwv yX8_removeSection := ⟨gw_880, gw_881⟩
theorem kd_X8_renew : cwd yX8_renew cX8_renew 3 (some .int) 2 := ⟨gw_1, gw_1005, by decide +kernel, by decide +kernel, by decide +kernel⟩
theorem kv_X8_renew : cwv yX8_renew := ⟨gw_1003, gw_1004⟩
theorem kd_X8_request : cwd yX8_request cX8_request 5 (some .int) 4 := ⟨gw_1, gw_983, by decide +kernel, by decide +kernel, by decide +kernel⟩
theorem kv_X8_request : cwv yX8_request := ⟨gw_981, gw_982⟩
theorem kd_X8_revert : cwd yX8_revert cX8_revert 3 (some .int) 2 := ⟨gw_1, gw_1156, by decide +kernel, by decide +kernel, by decide +kernel⟩
theorem kv_X8_revert : cwv yX8_revert := ⟨gw_1154, gw_1155⟩
theorem kd_X8_section : cwd yX8_section cX8_section 3 (some .int) 2 := ⟨gw_1, gw_936, by decide +kernel, by decide +kernel, by decide +kernel⟩
theorem kv_X8_section : cwv yX8_section := ⟨gw_934, gw_935⟩
theorem kd_X8_undo : cwd yX8_undo cX8_undo 1 (some .int) 0 := ⟨gw_1, gw_1240, by decide +kernel, by decide +kernel, by decide +kernel⟩
theorem kv_X8_undo : cwv yX8_undo := ⟨gw_1238, gw_1239⟩
theorem kd_X8_useBits : cwd yX8_useBits cX8_useBits 2 (some .int) 1 := ⟨gw_1, gw_1186, by decide +kernel, by decide +kernel, by decide +kernel⟩
theorem kv_X8_useBits : cwv yX8_useBits := ⟨gw_1184, gw_1185⟩
theorem kd_X8_waitingAt : cwd yX8_waitingAt cX8_waitingAt 4 (some .int) 2 := ⟨gw_1, gw_1171, by decide +kernel, by decide +kernel, by decide +kernel⟩
theorem kv_X8_waitingAt : cwv yX8_waitingAt := ⟨gw_1169, gw_1170⟩
theorem kd_X8_waitsFor : cwd yX8_waitsFor cX8_waitsFor 2 (some .int) 1 := ⟨gw_1, gw_1109, by decide +kernel, by decide +kernel, by decide +kernel⟩
theorem kv_X8_waitsFor : cwv yX8_waitsFor := ⟨gw_1107, gw_1108⟩
theorem kd_X8_write : cwd yX8_write cX8_write 4 (some .int) 3 := ⟨gw_1, gw_968, by decide +kernel, by decide +kernel, by decide +kernel⟩
theorem kv_X8_write : cwv yX8_write := ⟨gw_966, gw_967⟩
theorem hat_1 : ∀ w ∈ (vx_atS RX8 322 (xcls 1) xnames).filter goodWord, w ∈ GL := by
  have h : ((vx_atS RX8 322 (xcls 1) xnames).filter goodWord).all (fun w => decide (w ∈ lw_tbl) && goodWord w) = true := by decide +kernel
  intro w hw
  have h2 := List.all_eq_true.mp h w hw
  simp only [Bool.and_eq_true, decide_eq_true_eq] at h2
  exact List.mem_filter.mpr h2
theorem hax_1 : ∀ w ∈ (vx_atS RX8 322 (xcls 1) xnames).filter (fun w => !goodWord w), w ∈ XW := by decide +kernel
theorem hgd_1 : ∀ w ∈ Cond.classLink RX8 318 (xcls 1) :: Cond.initialized (xcls 1) :: vx_atS RX8 322 (xcls 1) xnames, vx_ot w = true := by decide +kernel
theorem hat_2 : ∀ w ∈ (vx_atS RX8 329 (xcls 2) xnames).filter goodWord, w ∈ GL := by
  have h : ((vx_atS RX8 329 (xcls 2) xnames).filter goodWord).all (fun w => decide (w ∈ lw_tbl) && goodWord w) = true := by decide +kernel
  intro w hw
  have h2 := List.all_eq_true.mp h w hw
  simp only [Bool.and_eq_true, decide_eq_true_eq] at h2
  exact List.mem_filter.mpr h2
theorem hax_2 : ∀ w ∈ (vx_atS RX8 329 (xcls 2) xnames).filter (fun w => !goodWord w), w ∈ XW := by decide +kernel
theorem hgd_2 : ∀ w ∈ Cond.classLink RX8 325 (xcls 2) :: Cond.initialized (xcls 2) :: vx_atS RX8 329 (xcls 2) xnames, vx_ot w = true := by decide +kernel
theorem hat_3 : ∀ w ∈ (vx_atS RX8 334 (xcls 3) xnames).filter goodWord, w ∈ GL := by
  have h : ((vx_atS RX8 334 (xcls 3) xnames).filter goodWord).all (fun w => decide (w ∈ lw_tbl) && goodWord w) = true := by decide +kernel
  intro w hw
  have h2 := List.all_eq_true.mp h w hw
  simp only [Bool.and_eq_true, decide_eq_true_eq] at h2
  exact List.mem_filter.mpr h2
theorem hax_3 : ∀ w ∈ (vx_atS RX8 334 (xcls 3) xnames).filter (fun w => !goodWord w), w ∈ XW := by decide +kernel
theorem hgd_3 : ∀ w ∈ Cond.classLink RX8 330 (xcls 3) :: Cond.initialized (xcls 3) :: vx_atS RX8 334 (xcls 3) xnames, vx_ot w = true := by decide +kernel
