theorem dL_law_890 : decode cL_law 890 = .ok (.if_icmp .ne 7, 3) := by decide +kernel
theorem dL_law_893 : decode cL_law 893 = .ok (.iconst 1, 1) := by decide +kernel
theorem dL_law_894 : decode cL_law 894 = .ok (.goto 4, 3) := by decide +kernel
theorem dL_law_897 : decode cL_law 897 = .ok (.iconst 0, 1) := by decide +kernel
theorem dL_law_898 : decode cL_law 898 = .ok (.ior, 1) := by decide +kernel
theorem dL_law_899 : decode cL_law 899 = .ok (.istore 20, 2) := by decide +kernel
theorem dL_law_901 : decode cL_law 901 = .ok (.iinc 21 1, 3) := by decide +kernel
theorem dL_law_904 : decode cL_law 904 = .ok (.goto (-31), 3) := by decide +kernel
theorem dL_law_907 : decode cL_law 907 = .ok (.iload 14, 2) := by decide +kernel
theorem dL_law_909 : decode cL_law 909 = .ok (.ifCond .lt 15, 3) := by decide +kernel
theorem dL_law_912 : decode cL_law 912 = .ok (.iload 19, 2) := by decide +kernel
theorem dL_law_914 : decode cL_law 914 = .ok (.iload 14, 2) := by decide +kernel
theorem dL_law_916 : decode cL_law 916 = .ok (.if_icmp .gt 8, 3) := by decide +kernel
theorem dL_law_919 : decode cL_law 919 = .ok (.iload 20, 2) := by decide +kernel
theorem dL_law_921 : decode cL_law 921 = .ok (.ifCond .ne 27, 3) := by decide +kernel
theorem dL_law_924 : decode cL_law 924 = .ok (.iload 14, 2) := by decide +kernel
theorem dL_law_926 : decode cL_law 926 = .ok (.iload 19, 2) := by decide +kernel
theorem dL_law_928 : decode cL_law 928 = .ok (.iconst 1, 1) := by decide +kernel
theorem dL_law_929 : decode cL_law 929 = .ok (.isub, 1) := by decide +kernel
theorem dL_law_930 : decode cL_law 930 = .ok (.if_icmp .ne 8, 3) := by decide +kernel
theorem dL_law_933 : decode cL_law 933 = .ok (.iload 20, 2) := by decide +kernel
theorem dL_law_935 : decode cL_law 935 = .ok (.ifCond .eq 13, 3) := by decide +kernel
theorem dL_law_938 : decode cL_law 938 = .ok (.iload 14, 2) := by decide +kernel
theorem dL_law_940 : decode cL_law 940 = .ok (.ifCond .ge 10, 3) := by decide +kernel
theorem dL_law_943 : decode cL_law 943 = .ok (.iload 20, 2) := by decide +kernel
theorem dL_law_945 : decode cL_law 945 = .ok (.ifCond .eq 5, 3) := by decide +kernel
theorem dL_law_948 : decode cL_law 948 = .ok (.iconst 0, 1) := by decide +kernel
theorem dL_law_949 : decode cL_law 949 = .ok (.ireturn, 1) := by decide +kernel
theorem dL_law_950 : decode cL_law 950 = .ok (.aload_n 1, 1) := by decide +kernel
theorem dL_law_951 : decode cL_law 951 = .ok (.invokevirtual 138, 3) := by decide +kernel
theorem dL_law_954 : decode cL_law 954 = .ok (.istore 21, 2) := by decide +kernel
theorem dL_law_956 : decode cL_law 956 = .ok (.aload_n 1, 1) := by decide +kernel
theorem dL_law_957 : decode cL_law 957 = .ok (.invokevirtual 178, 3) := by decide +kernel
theorem dL_law_960 : decode cL_law 960 = .ok (.istore 22, 2) := by decide +kernel
theorem dL_law_962 : decode cL_law 962 = .ok (.aload_n 1, 1) := by decide +kernel
theorem dL_law_963 : decode cL_law 963 = .ok (.invokevirtual 181, 3) := by decide +kernel
theorem dL_law_966 : decode cL_law 966 = .ok (.aload_n 1, 1) := by decide +kernel
theorem dL_law_967 : decode cL_law 967 = .ok (.invokevirtual 178, 3) := by decide +kernel
theorem dL_law_970 : decode cL_law 970 = .ok (.iadd, 1) := by decide +kernel
theorem dL_law_971 : decode cL_law 971 = .ok (.istore 23, 2) := by decide +kernel
theorem dL_law_973 : decode cL_law 973 = .ok (.iload 7, 2) := by decide +kernel
theorem dL_law_975 : decode cL_law 975 = .ok (.newarray .int, 2) := by decide +kernel
theorem dL_law_977 : decode cL_law 977 = .ok (.astore 24, 2) := by decide +kernel
theorem dL_law_979 : decode cL_law 979 = .ok (.iconst 0, 1) := by decide +kernel
theorem dL_law_980 : decode cL_law 980 = .ok (.istore 25, 2) := by decide +kernel
theorem dL_law_982 : decode cL_law 982 = .ok (.iload 25, 2) := by decide +kernel
theorem dL_law_984 : decode cL_law 984 = .ok (.iload 7, 2) := by decide +kernel
theorem dL_law_986 : decode cL_law 986 = .ok (.if_icmp .ge 20, 3) := by decide +kernel
theorem dL_law_989 : decode cL_law 989 = .ok (.aload 24, 2) := by decide +kernel
theorem dL_law_991 : decode cL_law 991 = .ok (.iload 25, 2) := by decide +kernel
