/-! ===== THE CODE as data: instruction, length, two numbers (link or target), an int, a long ===== -/
def zb_0_18 : List zN := [(.iload_n 3, 1, 0, 0, 0, 0), (.aload_n 0, 1, 0, 0, 0, 0), (.arraylength, 1, 0, 0, 0, 0), (.bipush 7, 2, 0, 0, 7, 0), (.isub, 1, 0, 0, 0, 0), (.if_icmp .gt 1751, 3, 1775, 0, 0, 0), (.aload_n 0, 1, 0, 0, 0, 0), (.iload_n 3, 1, 0, 0, 0, 0), (.iaload, 1, 0, 0, 0, 0), (.bipush 63, 2, 0, 0, 63, 0), (.iand, 1, 0, 0, 0, 0), (.tableswitch 1736 0 42 #[187, 210, 243, 276, 319, 372, 415, 458, 501, 534, 609, 632, 701, 744, 787, 830, 873, 906, 939, 962, 975, 998, 1021, 1054, 1088, 1121, 1154, 1188, 1221, 1254, 1297, 1330, 1373, 1416, 1449, 1482, 1505, 1538, 1591, 1624, 1667, 1700, 1723], 187, 1769, 0, 0, 0)]
def zb_0_220 : List zN := [(.aload_n 1, 1, 0, 0, 0, 0), (.aload_n 0, 1, 0, 0, 0, 0), (.iload_n 3, 1, 0, 0, 0, 0), (.iconst 1, 1, 0, 0, 1, 0), (.iadd, 1, 0, 0, 0, 0), (.iaload, 1, 0, 0, 0, 0), (.invokevirtual 13, 3, 70, 1, 0, 0), (.aload_n 2, 1, 0, 0, 0, 0), (.aload_n 0, 1, 0, 0, 0, 0), (.iload_n 3, 1, 0, 0, 0, 0), (.iconst 1, 1, 0, 0, 1, 0), (.iadd, 1, 0, 0, 0, 0), (.iaload, 1, 0, 0, 0, 0), (.invokevirtual 17, 3, 133, 1, 0, 0), (.if_icmp .eq 1531, 3, 1769, 0, 0, 0), (.iconst 0, 1, 0, 0, 0, 0), (.ireturn, 1, 0, 0, 0, 0)]
def zb_0_243 : List zN := [(.aload_n 1, 1, 0, 0, 0, 0), (.aload_n 0, 1, 0, 0, 0, 0), (.iload_n 3, 1, 0, 0, 0, 0), (.iconst 1, 1, 0, 0, 1, 0), (.iadd, 1, 0, 0, 0, 0), (.iaload, 1, 0, 0, 0, 0), (.aload_n 0, 1, 0, 0, 0, 0), (.iload_n 3, 1, 0, 0, 0, 0), (.iconst 2, 1, 0, 0, 2, 0), (.iadd, 1, 0, 0, 0, 0), (.iaload, 1, 0, 0, 0, 0), (.invokevirtual 18, 3, 76, 2, 0, 0), (.aload_n 2, 1, 0, 0, 0, 0), (.aload_n 0, 1, 0, 0, 0, 0), (.iload_n 3, 1, 0, 0, 0, 0), (.iconst 1, 1, 0, 0, 1, 0), (.iadd, 1, 0, 0, 0, 0), (.iaload, 1, 0, 0, 0, 0), (.aload_n 0, 1, 0, 0, 0, 0), (.iload_n 3, 1, 0, 0, 0, 0), (.iconst 2, 1, 0, 0, 2, 0), (.iadd, 1, 0, 0, 0, 0), (.iaload, 1, 0, 0, 0, 0), (.invokevirtual 22, 3, 150, 2, 0, 0), (.if_icmp .eq 1498, 3, 1769, 0, 0, 0), (.iconst 0, 1, 0, 0, 0, 0), (.ireturn, 1, 0, 0, 0, 0)]
def zb_0_276 : List zN := [(.aload_n 1, 1, 0, 0, 0, 0), (.aload_n 0, 1, 0, 0, 0, 0), (.iload_n 3, 1, 0, 0, 0, 0), (.iconst 1, 1, 0, 0, 1, 0), (.iadd, 1, 0, 0, 0, 0), (.iaload, 1, 0, 0, 0, 0), (.aload_n 0, 1, 0, 0, 0, 0), (.iload_n 3, 1, 0, 0, 0, 0), (.iconst 2, 1, 0, 0, 2, 0), (.iadd, 1, 0, 0, 0, 0), (.iaload, 1, 0, 0, 0, 0), (.invokevirtual 23, 3, 77, 2, 0, 0), (.aload_n 2, 1, 0, 0, 0, 0), (.aload_n 0, 1, 0, 0, 0, 0), (.iload_n 3, 1, 0, 0, 0, 0), (.iconst 1, 1, 0, 0, 1, 0), (.iadd, 1, 0, 0, 0, 0), (.iaload, 1, 0, 0, 0, 0), (.aload_n 0, 1, 0, 0, 0, 0), (.iload_n 3, 1, 0, 0, 0, 0), (.iconst 2, 1, 0, 0, 2, 0), (.iadd, 1, 0, 0, 0, 0), (.iaload, 1, 0, 0, 0, 0), (.invokevirtual 26, 3, 153, 2, 0, 0), (.if_icmp .eq 1465, 3, 1769, 0, 0, 0), (.iconst 0, 1, 0, 0, 0, 0), (.ireturn, 1, 0, 0, 0, 0)]
def zb_0_309 : List zN := [(.aload_n 1, 1, 0, 0, 0, 0), (.aload_n 0, 1, 0, 0, 0, 0), (.iload_n 3, 1, 0, 0, 0, 0), (.iconst 1, 1, 0, 0, 1, 0), (.iadd, 1, 0, 0, 0, 0), (.iaload, 1, 0, 0, 0, 0), (.aload_n 0, 1, 0, 0, 0, 0), (.iload_n 3, 1, 0, 0, 0, 0), (.iconst 2, 1, 0, 0, 2, 0), (.iadd, 1, 0, 0, 0, 0), (.iaload, 1, 0, 0, 0, 0), (.aload_n 0, 1, 0, 0, 0, 0), (.iload_n 3, 1, 0, 0, 0, 0), (.iconst 3, 1, 0, 0, 3, 0), (.iadd, 1, 0, 0, 0, 0), (.iaload, 1, 0, 0, 0, 0), (.invokevirtual 27, 3, 78, 3, 0, 0), (.aload_n 2, 1, 0, 0, 0, 0), (.aload_n 0, 1, 0, 0, 0, 0), (.iload_n 3, 1, 0, 0, 0, 0), (.iconst 1, 1, 0, 0, 1, 0), (.iadd, 1, 0, 0, 0, 0), (.iaload, 1, 0, 0, 0, 0), (.aload_n 0, 1, 0, 0, 0, 0), (.iload_n 3, 1, 0, 0, 0, 0), (.iconst 2, 1, 0, 0, 2, 0), (.iadd, 1, 0, 0, 0, 0), (.iaload, 1, 0, 0, 0, 0), (.aload_n 0, 1, 0, 0, 0, 0), (.iload_n 3, 1, 0, 0, 0, 0), (.iconst 3, 1, 0, 0, 3, 0), (.iadd, 1, 0, 0, 0, 0), (.iaload, 1, 0, 0, 0, 0), (.invokevirtual 31, 3, 154, 3, 0, 0), (.if_icmp .eq 1422, 3, 1769, 0, 0, 0), (.iconst 0, 1, 0, 0, 0, 0), (.ireturn, 1, 0, 0, 0, 0)]
def zb_0_352 : List zN := [(.aload_n 1, 1, 0, 0, 0, 0), (.aload_n 0, 1, 0, 0, 0, 0), (.iload_n 3, 1, 0, 0, 0, 0), (.iconst 1, 1, 0, 0, 1, 0), (.iadd, 1, 0, 0, 0, 0), (.iaload, 1, 0, 0, 0, 0), (.aload_n 0, 1, 0, 0, 0, 0), (.iload_n 3, 1, 0, 0, 0, 0), (.iconst 2, 1, 0, 0, 2, 0), (.iadd, 1, 0, 0, 0, 0), (.iaload, 1, 0, 0, 0, 0), (.aload_n 0, 1, 0, 0, 0, 0), (.iload_n 3, 1, 0, 0, 0, 0), (.iconst 3, 1, 0, 0, 3, 0), (.iadd, 1, 0, 0, 0, 0), (.iaload, 1, 0, 0, 0, 0), (.aload_n 0, 1, 0, 0, 0, 0), (.iload_n 3, 1, 0, 0, 0, 0), (.iconst 4, 1, 0, 0, 4, 0), (.iadd, 1, 0, 0, 0, 0), (.iaload, 1, 0, 0, 0, 0), (.invokevirtual 32, 3, 79, 4, 0, 0), (.aload_n 2, 1, 0, 0, 0, 0), (.aload_n 0, 1, 0, 0, 0, 0), (.iload_n 3, 1, 0, 0, 0, 0), (.iconst 1, 1, 0, 0, 1, 0), (.iadd, 1, 0, 0, 0, 0), (.iaload, 1, 0, 0, 0, 0), (.aload_n 0, 1, 0, 0, 0, 0), (.iload_n 3, 1, 0, 0, 0, 0), (.iconst 2, 1, 0, 0, 2, 0), (.iadd, 1, 0, 0, 0, 0), (.iaload, 1, 0, 0, 0, 0), (.aload_n 0, 1, 0, 0, 0, 0), (.iload_n 3, 1, 0, 0, 0, 0), (.iconst 3, 1, 0, 0, 3, 0), (.iadd, 1, 0, 0, 0, 0), (.iaload, 1, 0, 0, 0, 0), (.aload_n 0, 1, 0, 0, 0, 0), (.iload_n 3, 1, 0, 0, 0, 0), (.iconst 4, 1, 0, 0, 4, 0), (.iadd, 1, 0, 0, 0, 0), (.iaload, 1, 0, 0, 0, 0), (.invokevirtual 36, 3, 157, 4, 0, 0), (.if_icmp .eq 1369, 3, 1769, 0, 0, 0), (.iconst 0, 1, 0, 0, 0, 0), (.ireturn, 1, 0, 0, 0, 0)]
def zb_0_405 : List zN := [(.aload_n 1, 1, 0, 0, 0, 0), (.aload_n 0, 1, 0, 0, 0, 0), (.iload_n 3, 1, 0, 0, 0, 0), (.iconst 1, 1, 0, 0, 1, 0), (.iadd, 1, 0, 0, 0, 0), (.iaload, 1, 0, 0, 0, 0), (.aload_n 0, 1, 0, 0, 0, 0), (.iload_n 3, 1, 0, 0, 0, 0), (.iconst 2, 1, 0, 0, 2, 0), (.iadd, 1, 0, 0, 0, 0), (.iaload, 1, 0, 0, 0, 0), (.aload_n 0, 1, 0, 0, 0, 0), (.iload_n 3, 1, 0, 0, 0, 0), (.iconst 3, 1, 0, 0, 3, 0), (.iadd, 1, 0, 0, 0, 0), (.iaload, 1, 0, 0, 0, 0), (.invokevirtual 37, 3, 80, 3, 0, 0), (.aload_n 2, 1, 0, 0, 0, 0), (.aload_n 0, 1, 0, 0, 0, 0), (.iload_n 3, 1, 0, 0, 0, 0), (.iconst 1, 1, 0, 0, 1, 0), (.iadd, 1, 0, 0, 0, 0), (.iaload, 1, 0, 0, 0, 0), (.aload_n 0, 1, 0, 0, 0, 0), (.iload_n 3, 1, 0, 0, 0, 0), (.iconst 2, 1, 0, 0, 2, 0), (.iadd, 1, 0, 0, 0, 0), (.iaload, 1, 0, 0, 0, 0), (.aload_n 0, 1, 0, 0, 0, 0), (.iload_n 3, 1, 0, 0, 0, 0), (.iconst 3, 1, 0, 0, 3, 0), (.iadd, 1, 0, 0, 0, 0), (.iaload, 1, 0, 0, 0, 0), (.invokevirtual 40, 3, 159, 3, 0, 0), (.if_icmp .eq 1326, 3, 1769, 0, 0, 0), (.iconst 0, 1, 0, 0, 0, 0), (.ireturn, 1, 0, 0, 0, 0)]
def zb_0_448 : List zN := [(.aload_n 1, 1, 0, 0, 0, 0), (.aload_n 0, 1, 0, 0, 0, 0), (.iload_n 3, 1, 0, 0, 0, 0), (.iconst 1, 1, 0, 0, 1, 0), (.iadd, 1, 0, 0, 0, 0), (.iaload, 1, 0, 0, 0, 0), (.aload_n 0, 1, 0, 0, 0, 0), (.iload_n 3, 1, 0, 0, 0, 0), (.iconst 2, 1, 0, 0, 2, 0), (.iadd, 1, 0, 0, 0, 0), (.iaload, 1, 0, 0, 0, 0), (.aload_n 0, 1, 0, 0, 0, 0), (.iload_n 3, 1, 0, 0, 0, 0), (.iconst 3, 1, 0, 0, 3, 0), (.iadd, 1, 0, 0, 0, 0), (.iaload, 1, 0, 0, 0, 0), (.invokevirtual 41, 3, 82, 3, 0, 0), (.aload_n 2, 1, 0, 0, 0, 0), (.aload_n 0, 1, 0, 0, 0, 0), (.iload_n 3, 1, 0, 0, 0, 0), (.iconst 1, 1, 0, 0, 1, 0), (.iadd, 1, 0, 0, 0, 0), (.iaload, 1, 0, 0, 0, 0), (.aload_n 0, 1, 0, 0, 0, 0), (.iload_n 3, 1, 0, 0, 0, 0), (.iconst 2, 1, 0, 0, 2, 0), (.iadd, 1, 0, 0, 0, 0), (.iaload, 1, 0, 0, 0, 0), (.aload_n 0, 1, 0, 0, 0, 0), (.iload_n 3, 1, 0, 0, 0, 0), (.iconst 3, 1, 0, 0, 3, 0), (.iadd, 1, 0, 0, 0, 0), (.iaload, 1, 0, 0, 0, 0), (.invokevirtual 44, 3, 161, 3, 0, 0), (.if_icmp .eq 1283, 3, 1769, 0, 0, 0), (.iconst 0, 1, 0, 0, 0, 0), (.ireturn, 1, 0, 0, 0, 0)]
def zb_0_491 : List zN := [(.aload_n 1, 1, 0, 0, 0, 0), (.aload_n 0, 1, 0, 0, 0, 0), (.iload_n 3, 1, 0, 0, 0, 0), (.iconst 1, 1, 0, 0, 1, 0), (.iadd, 1, 0, 0, 0, 0), (.iaload, 1, 0, 0, 0, 0), (.aload_n 0, 1, 0, 0, 0, 0), (.iload_n 3, 1, 0, 0, 0, 0), (.iconst 2, 1, 0, 0, 2, 0), (.iadd, 1, 0, 0, 0, 0), (.iaload, 1, 0, 0, 0, 0), (.aload_n 0, 1, 0, 0, 0, 0), (.iload_n 3, 1, 0, 0, 0, 0), (.iconst 3, 1, 0, 0, 3, 0), (.iadd, 1, 0, 0, 0, 0), (.iaload, 1, 0, 0, 0, 0), (.invokevirtual 45, 3, 83, 3, 0, 0), (.aload_n 2, 1, 0, 0, 0, 0), (.aload_n 0, 1, 0, 0, 0, 0), (.iload_n 3, 1, 0, 0, 0, 0), (.iconst 1, 1, 0, 0, 1, 0), (.iadd, 1, 0, 0, 0, 0), (.iaload, 1, 0, 0, 0, 0), (.aload_n 0, 1, 0, 0, 0, 0), (.iload_n 3, 1, 0, 0, 0, 0), (.iconst 2, 1, 0, 0, 2, 0), (.iadd, 1, 0, 0, 0, 0), (.iaload, 1, 0, 0, 0, 0), (.aload_n 0, 1, 0, 0, 0, 0), (.iload_n 3, 1, 0, 0, 0, 0), (.iconst 3, 1, 0, 0, 3, 0), (.iadd, 1, 0, 0, 0, 0), (.iaload, 1, 0, 0, 0, 0), (.invokevirtual 48, 3, 162, 3, 0, 0), (.if_icmp .eq 1240, 3, 1769, 0, 0, 0), (.iconst 0, 1, 0, 0, 0, 0), (.ireturn, 1, 0, 0, 0, 0)]
def zb_0_534 : List zN := [(.aload_n 1, 1, 0, 0, 0, 0), (.aload_n 0, 1, 0, 0, 0, 0), (.iload_n 3, 1, 0, 0, 0, 0), (.iconst 1, 1, 0, 0, 1, 0), (.iadd, 1, 0, 0, 0, 0), (.iaload, 1, 0, 0, 0, 0), (.aload_n 0, 1, 0, 0, 0, 0), (.iload_n 3, 1, 0, 0, 0, 0), (.iconst 2, 1, 0, 0, 2, 0), (.iadd, 1, 0, 0, 0, 0), (.iaload, 1, 0, 0, 0, 0), (.invokevirtual 49, 3, 85, 2, 0, 0), (.aload_n 2, 1, 0, 0, 0, 0), (.aload_n 0, 1, 0, 0, 0, 0), (.iload_n 3, 1, 0, 0, 0, 0), (.iconst 1, 1, 0, 0, 1, 0), (.iadd, 1, 0, 0, 0, 0), (.iaload, 1, 0, 0, 0, 0), (.aload_n 0, 1, 0, 0, 0, 0), (.iload_n 3, 1, 0, 0, 0, 0), (.iconst 2, 1, 0, 0, 2, 0), (.iadd, 1, 0, 0, 0, 0), (.iaload, 1, 0, 0, 0, 0), (.invokevirtual 52, 3, 171, 2, 0, 0), (.if_icmp .eq 1207, 3, 1769, 0, 0, 0), (.iconst 0, 1, 0, 0, 0, 0), (.ireturn, 1, 0, 0, 0, 0)]
def zb_0_567 : List zN := [(.aload_n 1, 1, 0, 0, 0, 0), (.aload_n 0, 1, 0, 0, 0, 0), (.iload_n 3, 1, 0, 0, 0, 0), (.iconst 1, 1, 0, 0, 1, 0), (.iadd, 1, 0, 0, 0, 0), (.iaload, 1, 0, 0, 0, 0), (.aload_n 0, 1, 0, 0, 0, 0), (.iload_n 3, 1, 0, 0, 0, 0), (.iconst 2, 1, 0, 0, 2, 0), (.iadd, 1, 0, 0, 0, 0), (.iaload, 1, 0, 0, 0, 0), (.aload_n 0, 1, 0, 0, 0, 0), (.iload_n 3, 1, 0, 0, 0, 0), (.iconst 3, 1, 0, 0, 3, 0), (.iadd, 1, 0, 0, 0, 0), (.iaload, 1, 0, 0, 0, 0), (.aload_n 0, 1, 0, 0, 0, 0), (.iload_n 3, 1, 0, 0, 0, 0), (.iconst 4, 1, 0, 0, 4, 0), (.iadd, 1, 0, 0, 0, 0), (.iaload, 1, 0, 0, 0, 0), (.aload_n 0, 1, 0, 0, 0, 0), (.iload_n 3, 1, 0, 0, 0, 0), (.iconst 5, 1, 0, 0, 5, 0), (.iadd, 1, 0, 0, 0, 0), (.iaload, 1, 0, 0, 0, 0), (.aload_n 0, 1, 0, 0, 0, 0), (.iload_n 3, 1, 0, 0, 0, 0), (.bipush 6, 2, 0, 0, 6, 0), (.iadd, 1, 0, 0, 0, 0), (.iaload, 1, 0, 0, 0, 0), (.invokevirtual 53, 3, 86, 6, 0, 0), (.aload_n 2, 1, 0, 0, 0, 0), (.aload_n 0, 1, 0, 0, 0, 0), (.iload_n 3, 1, 0, 0, 0, 0), (.iconst 1, 1, 0, 0, 1, 0), (.iadd, 1, 0, 0, 0, 0), (.iaload, 1, 0, 0, 0, 0), (.aload_n 0, 1, 0, 0, 0, 0), (.iload_n 3, 1, 0, 0, 0, 0), (.iconst 2, 1, 0, 0, 2, 0), (.iadd, 1, 0, 0, 0, 0), (.iaload, 1, 0, 0, 0, 0), (.aload_n 0, 1, 0, 0, 0, 0), (.iload_n 3, 1, 0, 0, 0, 0), (.iconst 3, 1, 0, 0, 3, 0), (.iadd, 1, 0, 0, 0, 0), (.iaload, 1, 0, 0, 0, 0), (.aload_n 0, 1, 0, 0, 0, 0), (.iload_n 3, 1, 0, 0, 0, 0), (.iconst 4, 1, 0, 0, 4, 0), (.iadd, 1, 0, 0, 0, 0), (.iaload, 1, 0, 0, 0, 0), (.aload_n 0, 1, 0, 0, 0, 0), (.iload_n 3, 1, 0, 0, 0, 0), (.iconst 5, 1, 0, 0, 5, 0), (.iadd, 1, 0, 0, 0, 0), (.iaload, 1, 0, 0, 0, 0), (.aload_n 0, 1, 0, 0, 0, 0), (.iload_n 3, 1, 0, 0, 0, 0), (.bipush 6, 2, 0, 0, 6, 0), (.iadd, 1, 0, 0, 0, 0), (.iaload, 1, 0, 0, 0, 0), (.invokevirtual 57, 3, 172, 6, 0, 0), (.if_icmp .eq 1132, 3, 1769, 0, 0, 0), (.iconst 0, 1, 0, 0, 0, 0), (.ireturn, 1, 0, 0, 0, 0)]
def zb_0_642 : List zN := [(.aload_n 1, 1, 0, 0, 0, 0), (.aload_n 0, 1, 0, 0, 0, 0), (.iload_n 3, 1, 0, 0, 0, 0), (.iconst 1, 1, 0, 0, 1, 0), (.iadd, 1, 0, 0, 0, 0), (.iaload, 1, 0, 0, 0, 0), (.invokevirtual 58, 3, 87, 1, 0, 0), (.aload_n 2, 1, 0, 0, 0, 0), (.aload_n 0, 1, 0, 0, 0, 0), (.iload_n 3, 1, 0, 0, 0, 0), (.iconst 1, 1, 0, 0, 1, 0), (.iadd, 1, 0, 0, 0, 0), (.iaload, 1, 0, 0, 0, 0), (.invokevirtual 61, 3, 173, 1, 0, 0), (.if_icmp .eq 1109, 3, 1769, 0, 0, 0), (.iconst 0, 1, 0, 0, 0, 0), (.ireturn, 1, 0, 0, 0, 0)]
def zb_0_665 : List zN := [(.aload_n 1, 1, 0, 0, 0, 0), (.aload_n 0, 1, 0, 0, 0, 0), (.iload_n 3, 1, 0, 0, 0, 0), (.iconst 1, 1, 0, 0, 1, 0), (.iadd, 1, 0, 0, 0, 0), (.iaload, 1, 0, 0, 0, 0), (.aload_n 0, 1, 0, 0, 0, 0), (.iload_n 3, 1, 0, 0, 0, 0), (.iconst 2, 1, 0, 0, 2, 0), (.iadd, 1, 0, 0, 0, 0), (.iaload, 1, 0, 0, 0, 0), (.aload_n 0, 1, 0, 0, 0, 0), (.iload_n 3, 1, 0, 0, 0, 0), (.iconst 3, 1, 0, 0, 3, 0), (.iadd, 1, 0, 0, 0, 0), (.iaload, 1, 0, 0, 0, 0), (.ifCond .eq 7, 3, 688, 0, 0, 0), (.iconst 1, 1, 0, 0, 1, 0), (.goto 4, 3, 689, 0, 0, 0)]
def zb_0_688 : List zN := [(.iconst 0, 1, 0, 0, 0, 0)]
def zb_0_689 : List zN := [(.aload_n 0, 1, 0, 0, 0, 0), (.iload_n 3, 1, 0, 0, 0, 0), (.iconst 4, 1, 0, 0, 4, 0), (.iadd, 1, 0, 0, 0, 0), (.iaload, 1, 0, 0, 0, 0), (.invokevirtual 62, 3, 88, 4, 0, 0), (.aload_n 2, 1, 0, 0, 0, 0), (.aload_n 0, 1, 0, 0, 0, 0), (.iload_n 3, 1, 0, 0, 0, 0), (.iconst 1, 1, 0, 0, 1, 0), (.iadd, 1, 0, 0, 0, 0), (.iaload, 1, 0, 0, 0, 0), (.aload_n 0, 1, 0, 0, 0, 0), (.iload_n 3, 1, 0, 0, 0, 0), (.iconst 2, 1, 0, 0, 2, 0), (.iadd, 1, 0, 0, 0, 0), (.iaload, 1, 0, 0, 0, 0), (.aload_n 0, 1, 0, 0, 0, 0), (.iload_n 3, 1, 0, 0, 0, 0), (.iconst 3, 1, 0, 0, 3, 0), (.iadd, 1, 0, 0, 0, 0), (.iaload, 1, 0, 0, 0, 0), (.ifCond .eq 7, 3, 720, 0, 0, 0), (.iconst 1, 1, 0, 0, 1, 0), (.goto 4, 3, 721, 0, 0, 0)]
def zb_0_720 : List zN := [(.iconst 0, 1, 0, 0, 0, 0)]
def zb_0_721 : List zN := [(.aload_n 0, 1, 0, 0, 0, 0), (.iload_n 3, 1, 0, 0, 0, 0), (.iconst 4, 1, 0, 0, 4, 0), (.iadd, 1, 0, 0, 0, 0), (.iaload, 1, 0, 0, 0, 0), (.invokevirtual 66, 3, 176, 4, 0, 0), (.if_icmp .eq 1040, 3, 1769, 0, 0, 0), (.iconst 0, 1, 0, 0, 0, 0), (.ireturn, 1, 0, 0, 0, 0)]
def zb_0_734 : List zN := [(.aload_n 1, 1, 0, 0, 0, 0), (.aload_n 0, 1, 0, 0, 0, 0), (.iload_n 3, 1, 0, 0, 0, 0), (.iconst 1, 1, 0, 0, 1, 0), (.iadd, 1, 0, 0, 0, 0), (.iaload, 1, 0, 0, 0, 0), (.aload_n 0, 1, 0, 0, 0, 0), (.iload_n 3, 1, 0, 0, 0, 0), (.iconst 2, 1, 0, 0, 2, 0), (.iadd, 1, 0, 0, 0, 0), (.iaload, 1, 0, 0, 0, 0), (.aload_n 0, 1, 0, 0, 0, 0), (.iload_n 3, 1, 0, 0, 0, 0), (.iconst 3, 1, 0, 0, 3, 0), (.iadd, 1, 0, 0, 0, 0), (.iaload, 1, 0, 0, 0, 0), (.invokevirtual 67, 3, 90, 3, 0, 0), (.aload_n 2, 1, 0, 0, 0, 0), (.aload_n 0, 1, 0, 0, 0, 0), (.iload_n 3, 1, 0, 0, 0, 0), (.iconst 1, 1, 0, 0, 1, 0), (.iadd, 1, 0, 0, 0, 0), (.iaload, 1, 0, 0, 0, 0), (.aload_n 0, 1, 0, 0, 0, 0), (.iload_n 3, 1, 0, 0, 0, 0), (.iconst 2, 1, 0, 0, 2, 0), (.iadd, 1, 0, 0, 0, 0), (.iaload, 1, 0, 0, 0, 0), (.aload_n 0, 1, 0, 0, 0, 0), (.iload_n 3, 1, 0, 0, 0, 0), (.iconst 3, 1, 0, 0, 3, 0), (.iadd, 1, 0, 0, 0, 0), (.iaload, 1, 0, 0, 0, 0), (.invokevirtual 70, 3, 188, 3, 0, 0), (.if_icmp .eq 997, 3, 1769, 0, 0, 0), (.iconst 0, 1, 0, 0, 0, 0), (.ireturn, 1, 0, 0, 0, 0)]
def zb_0_777 : List zN := [(.aload_n 1, 1, 0, 0, 0, 0), (.aload_n 0, 1, 0, 0, 0, 0), (.iload_n 3, 1, 0, 0, 0, 0), (.iconst 1, 1, 0, 0, 1, 0), (.iadd, 1, 0, 0, 0, 0), (.iaload, 1, 0, 0, 0, 0), (.aload_n 0, 1, 0, 0, 0, 0), (.iload_n 3, 1, 0, 0, 0, 0), (.iconst 2, 1, 0, 0, 2, 0), (.iadd, 1, 0, 0, 0, 0), (.iaload, 1, 0, 0, 0, 0), (.aload_n 0, 1, 0, 0, 0, 0), (.iload_n 3, 1, 0, 0, 0, 0), (.iconst 3, 1, 0, 0, 3, 0), (.iadd, 1, 0, 0, 0, 0), (.iaload, 1, 0, 0, 0, 0), (.invokevirtual 71, 3, 91, 3, 0, 0), (.aload_n 2, 1, 0, 0, 0, 0), (.aload_n 0, 1, 0, 0, 0, 0), (.iload_n 3, 1, 0, 0, 0, 0), (.iconst 1, 1, 0, 0, 1, 0), (.iadd, 1, 0, 0, 0, 0), (.iaload, 1, 0, 0, 0, 0), (.aload_n 0, 1, 0, 0, 0, 0), (.iload_n 3, 1, 0, 0, 0, 0), (.iconst 2, 1, 0, 0, 2, 0), (.iadd, 1, 0, 0, 0, 0), (.iaload, 1, 0, 0, 0, 0), (.aload_n 0, 1, 0, 0, 0, 0), (.iload_n 3, 1, 0, 0, 0, 0), (.iconst 3, 1, 0, 0, 3, 0), (.iadd, 1, 0, 0, 0, 0), (.iaload, 1, 0, 0, 0, 0), (.invokevirtual 74, 3, 190, 3, 0, 0), (.if_icmp .eq 954, 3, 1769, 0, 0, 0), (.iconst 0, 1, 0, 0, 0, 0), (.ireturn, 1, 0, 0, 0, 0)]
def zb_0_820 : List zN := [(.aload_n 1, 1, 0, 0, 0, 0), (.aload_n 0, 1, 0, 0, 0, 0), (.iload_n 3, 1, 0, 0, 0, 0), (.iconst 1, 1, 0, 0, 1, 0), (.iadd, 1, 0, 0, 0, 0), (.iaload, 1, 0, 0, 0, 0), (.aload_n 0, 1, 0, 0, 0, 0), (.iload_n 3, 1, 0, 0, 0, 0), (.iconst 2, 1, 0, 0, 2, 0), (.iadd, 1, 0, 0, 0, 0), (.iaload, 1, 0, 0, 0, 0), (.aload_n 0, 1, 0, 0, 0, 0), (.iload_n 3, 1, 0, 0, 0, 0), (.iconst 3, 1, 0, 0, 3, 0), (.iadd, 1, 0, 0, 0, 0), (.iaload, 1, 0, 0, 0, 0), (.invokevirtual 75, 3, 92, 3, 0, 0), (.aload_n 2, 1, 0, 0, 0, 0), (.aload_n 0, 1, 0, 0, 0, 0), (.iload_n 3, 1, 0, 0, 0, 0), (.iconst 1, 1, 0, 0, 1, 0), (.iadd, 1, 0, 0, 0, 0), (.iaload, 1, 0, 0, 0, 0), (.aload_n 0, 1, 0, 0, 0, 0), (.iload_n 3, 1, 0, 0, 0, 0), (.iconst 2, 1, 0, 0, 2, 0), (.iadd, 1, 0, 0, 0, 0), (.iaload, 1, 0, 0, 0, 0), (.aload_n 0, 1, 0, 0, 0, 0), (.iload_n 3, 1, 0, 0, 0, 0), (.iconst 3, 1, 0, 0, 3, 0), (.iadd, 1, 0, 0, 0, 0), (.iaload, 1, 0, 0, 0, 0), (.invokevirtual 78, 3, 191, 3, 0, 0), (.if_icmp .eq 911, 3, 1769, 0, 0, 0), (.iconst 0, 1, 0, 0, 0, 0), (.ireturn, 1, 0, 0, 0, 0)]
def zb_0_863 : List zN := [(.aload_n 1, 1, 0, 0, 0, 0), (.aload_n 0, 1, 0, 0, 0, 0), (.iload_n 3, 1, 0, 0, 0, 0), (.iconst 1, 1, 0, 0, 1, 0), (.iadd, 1, 0, 0, 0, 0), (.iaload, 1, 0, 0, 0, 0), (.aload_n 0, 1, 0, 0, 0, 0), (.iload_n 3, 1, 0, 0, 0, 0), (.iconst 2, 1, 0, 0, 2, 0), (.iadd, 1, 0, 0, 0, 0), (.iaload, 1, 0, 0, 0, 0), (.aload_n 0, 1, 0, 0, 0, 0), (.iload_n 3, 1, 0, 0, 0, 0), (.iconst 3, 1, 0, 0, 3, 0), (.iadd, 1, 0, 0, 0, 0), (.iaload, 1, 0, 0, 0, 0), (.invokevirtual 79, 3, 93, 3, 0, 0), (.aload_n 2, 1, 0, 0, 0, 0), (.aload_n 0, 1, 0, 0, 0, 0), (.iload_n 3, 1, 0, 0, 0, 0), (.iconst 1, 1, 0, 0, 1, 0), (.iadd, 1, 0, 0, 0, 0), (.iaload, 1, 0, 0, 0, 0), (.aload_n 0, 1, 0, 0, 0, 0), (.iload_n 3, 1, 0, 0, 0, 0), (.iconst 2, 1, 0, 0, 2, 0), (.iadd, 1, 0, 0, 0, 0), (.iaload, 1, 0, 0, 0, 0), (.aload_n 0, 1, 0, 0, 0, 0), (.iload_n 3, 1, 0, 0, 0, 0), (.iconst 3, 1, 0, 0, 3, 0), (.iadd, 1, 0, 0, 0, 0), (.iaload, 1, 0, 0, 0, 0), (.invokevirtual 82, 3, 192, 3, 0, 0), (.if_icmp .eq 868, 3, 1769, 0, 0, 0), (.iconst 0, 1, 0, 0, 0, 0), (.ireturn, 1, 0, 0, 0, 0)]
def zb_0_906 : List zN := [(.aload_n 1, 1, 0, 0, 0, 0), (.aload_n 0, 1, 0, 0, 0, 0), (.iload_n 3, 1, 0, 0, 0, 0), (.iconst 1, 1, 0, 0, 1, 0), (.iadd, 1, 0, 0, 0, 0), (.iaload, 1, 0, 0, 0, 0), (.aload_n 0, 1, 0, 0, 0, 0), (.iload_n 3, 1, 0, 0, 0, 0), (.iconst 2, 1, 0, 0, 2, 0), (.iadd, 1, 0, 0, 0, 0), (.iaload, 1, 0, 0, 0, 0), (.invokevirtual 83, 3, 94, 2, 0, 0), (.aload_n 2, 1, 0, 0, 0, 0), (.aload_n 0, 1, 0, 0, 0, 0), (.iload_n 3, 1, 0, 0, 0, 0), (.iconst 1, 1, 0, 0, 1, 0), (.iadd, 1, 0, 0, 0, 0), (.iaload, 1, 0, 0, 0, 0), (.aload_n 0, 1, 0, 0, 0, 0), (.iload_n 3, 1, 0, 0, 0, 0), (.iconst 2, 1, 0, 0, 2, 0), (.iadd, 1, 0, 0, 0, 0), (.iaload, 1, 0, 0, 0, 0), (.invokevirtual 86, 3, 193, 2, 0, 0), (.if_icmp .eq 835, 3, 1769, 0, 0, 0), (.iconst 0, 1, 0, 0, 0, 0), (.ireturn, 1, 0, 0, 0, 0)]
def zb_0_939 : List zN := [(.aload_n 1, 1, 0, 0, 0, 0), (.aload_n 0, 1, 0, 0, 0, 0), (.iload_n 3, 1, 0, 0, 0, 0), (.iconst 1, 1, 0, 0, 1, 0), (.iadd, 1, 0, 0, 0, 0), (.iaload, 1, 0, 0, 0, 0), (.aload_n 0, 1, 0, 0, 0, 0), (.iload_n 3, 1, 0, 0, 0, 0), (.iconst 2, 1, 0, 0, 2, 0), (.iadd, 1, 0, 0, 0, 0), (.iaload, 1, 0, 0, 0, 0), (.invokevirtual 87, 3, 95, 2, 0, 0), (.aload_n 2, 1, 0, 0, 0, 0), (.aload_n 0, 1, 0, 0, 0, 0), (.iload_n 3, 1, 0, 0, 0, 0), (.iconst 1, 1, 0, 0, 1, 0), (.iadd, 1, 0, 0, 0, 0), (.iaload, 1, 0, 0, 0, 0), (.aload_n 0, 1, 0, 0, 0, 0), (.iload_n 3, 1, 0, 0, 0, 0), (.iconst 2, 1, 0, 0, 2, 0), (.iadd, 1, 0, 0, 0, 0), (.iaload, 1, 0, 0, 0, 0), (.invokevirtual 90, 3, 194, 2, 0, 0), (.if_icmp .eq 802, 3, 1769, 0, 0, 0), (.iconst 0, 1, 0, 0, 0, 0), (.ireturn, 1, 0, 0, 0, 0)]
def zb_0_972 : List zN := [(.aload_n 1, 1, 0, 0, 0, 0), (.aload_n 0, 1, 0, 0, 0, 0), (.iload_n 3, 1, 0, 0, 0, 0), (.iconst 1, 1, 0, 0, 1, 0), (.iadd, 1, 0, 0, 0, 0), (.iaload, 1, 0, 0, 0, 0), (.invokevirtual 91, 3, 96, 1, 0, 0), (.aload_n 2, 1, 0, 0, 0, 0), (.aload_n 0, 1, 0, 0, 0, 0), (.iload_n 3, 1, 0, 0, 0, 0), (.iconst 1, 1, 0, 0, 1, 0), (.iadd, 1, 0, 0, 0, 0), (.iaload, 1, 0, 0, 0, 0), (.invokevirtual 94, 3, 195, 1, 0, 0), (.if_icmp .eq 779, 3, 1769, 0, 0, 0), (.iconst 0, 1, 0, 0, 0, 0), (.ireturn, 1, 0, 0, 0, 0)]
def zb_0_995 : List zN := [(.aload_n 1, 1, 0, 0, 0, 0), (.invokevirtual 95, 3, 97, 0, 0, 0), (.aload_n 2, 1, 0, 0, 0, 0), (.invokevirtual 99, 3, 125, 0, 0, 0), (.if_icmp .eq 766, 3, 1769, 0, 0, 0), (.iconst 0, 1, 0, 0, 0, 0), (.ireturn, 1, 0, 0, 0, 0)]
def zb_0_1008 : List zN := [(.aload_n 1, 1, 0, 0, 0, 0), (.aload_n 0, 1, 0, 0, 0, 0), (.iload_n 3, 1, 0, 0, 0, 0), (.iconst 1, 1, 0, 0, 1, 0), (.iadd, 1, 0, 0, 0, 0), (.iaload, 1, 0, 0, 0, 0), (.invokevirtual 100, 3, 98, 1, 0, 0), (.aload_n 2, 1, 0, 0, 0, 0), (.aload_n 0, 1, 0, 0, 0, 0), (.iload_n 3, 1, 0, 0, 0, 0), (.iconst 1, 1, 0, 0, 1, 0), (.iadd, 1, 0, 0, 0, 0), (.iaload, 1, 0, 0, 0, 0), (.invokevirtual 103, 3, 129, 1, 0, 0), (.if_icmp .eq 743, 3, 1769, 0, 0, 0), (.iconst 0, 1, 0, 0, 0, 0), (.ireturn, 1, 0, 0, 0, 0)]
def zb_0_1031 : List zN := [(.aload_n 1, 1, 0, 0, 0, 0), (.aload_n 0, 1, 0, 0, 0, 0), (.iload_n 3, 1, 0, 0, 0, 0), (.iconst 1, 1, 0, 0, 1, 0), (.iadd, 1, 0, 0, 0, 0), (.iaload, 1, 0, 0, 0, 0), (.invokevirtual 104, 3, 99, 1, 0, 0), (.aload_n 2, 1, 0, 0, 0, 0), (.aload_n 0, 1, 0, 0, 0, 0), (.iload_n 3, 1, 0, 0, 0, 0), (.iconst 1, 1, 0, 0, 1, 0), (.iadd, 1, 0, 0, 0, 0), (.iaload, 1, 0, 0, 0, 0), (.invokevirtual 107, 3, 132, 1, 0, 0), (.if_icmp .eq 720, 3, 1769, 0, 0, 0), (.iconst 0, 1, 0, 0, 0, 0), (.ireturn, 1, 0, 0, 0, 0)]
def zb_0_1054 : List zN := [(.aload_n 1, 1, 0, 0, 0, 0), (.aload_n 0, 1, 0, 0, 0, 0), (.iload_n 3, 1, 0, 0, 0, 0), (.iconst 1, 1, 0, 0, 1, 0), (.iadd, 1, 0, 0, 0, 0), (.iaload, 1, 0, 0, 0, 0), (.aload_n 0, 1, 0, 0, 0, 0), (.iload_n 3, 1, 0, 0, 0, 0), (.iconst 2, 1, 0, 0, 2, 0), (.iadd, 1, 0, 0, 0, 0), (.iaload, 1, 0, 0, 0, 0), (.invokevirtual 108, 3, 100, 2, 0, 0), (.aload_n 2, 1, 0, 0, 0, 0), (.aload_n 0, 1, 0, 0, 0, 0), (.iload_n 3, 1, 0, 0, 0, 0), (.iconst 1, 1, 0, 0, 1, 0), (.iadd, 1, 0, 0, 0, 0), (.iaload, 1, 0, 0, 0, 0), (.aload_n 0, 1, 0, 0, 0, 0), (.iload_n 3, 1, 0, 0, 0, 0), (.iconst 2, 1, 0, 0, 2, 0), (.iadd, 1, 0, 0, 0, 0), (.iaload, 1, 0, 0, 0, 0), (.invokevirtual 111, 3, 198, 2, 0, 0), (.if_icmp .eq 687, 3, 1769, 0, 0, 0), (.iconst 0, 1, 0, 0, 0, 0), (.ireturn, 1, 0, 0, 0, 0)]
def zb_0_1087 : List zN := [(.aload_n 1, 1, 0, 0, 0, 0), (.aload_n 0, 1, 0, 0, 0, 0), (.iload_n 3, 1, 0, 0, 0, 0), (.iconst 1, 1, 0, 0, 1, 0), (.iadd, 1, 0, 0, 0, 0), (.iaload, 1, 0, 0, 0, 0), (.aload_n 0, 1, 0, 0, 0, 0), (.iload_n 3, 1, 0, 0, 0, 0), (.iconst 2, 1, 0, 0, 2, 0), (.iadd, 1, 0, 0, 0, 0), (.iaload, 1, 0, 0, 0, 0), (.invokevirtual 112, 3, 101, 2, 0, 0), (.aload_n 2, 1, 0, 0, 0, 0), (.aload_n 0, 1, 0, 0, 0, 0), (.iload_n 3, 1, 0, 0, 0, 0), (.iconst 1, 1, 0, 0, 1, 0), (.iadd, 1, 0, 0, 0, 0), (.iaload, 1, 0, 0, 0, 0), (.aload_n 0, 1, 0, 0, 0, 0), (.iload_n 3, 1, 0, 0, 0, 0), (.iconst 2, 1, 0, 0, 2, 0), (.iadd, 1, 0, 0, 0, 0), (.iaload, 1, 0, 0, 0, 0), (.invokevirtual 116, 3, 199, 2, 0, 0), (.lcmp, 1, 0, 0, 0, 0), (.ifCond .eq 653, 3, 1769, 0, 0, 0), (.iconst 0, 1, 0, 0, 0, 0), (.ireturn, 1, 0, 0, 0, 0)]
def zb_0_1121 : List zN := [(.aload_n 1, 1, 0, 0, 0, 0), (.aload_n 0, 1, 0, 0, 0, 0), (.iload_n 3, 1, 0, 0, 0, 0), (.iconst 1, 1, 0, 0, 1, 0), (.iadd, 1, 0, 0, 0, 0), (.iaload, 1, 0, 0, 0, 0), (.aload_n 0, 1, 0, 0, 0, 0), (.iload_n 3, 1, 0, 0, 0, 0), (.iconst 2, 1, 0, 0, 2, 0), (.iadd, 1, 0, 0, 0, 0), (.iaload, 1, 0, 0, 0, 0), (.invokevirtual 117, 3, 102, 2, 0, 0), (.aload_n 2, 1, 0, 0, 0, 0), (.aload_n 0, 1, 0, 0, 0, 0), (.iload_n 3, 1, 0, 0, 0, 0), (.iconst 1, 1, 0, 0, 1, 0), (.iadd, 1, 0, 0, 0, 0), (.iaload, 1, 0, 0, 0, 0), (.aload_n 0, 1, 0, 0, 0, 0), (.iload_n 3, 1, 0, 0, 0, 0), (.iconst 2, 1, 0, 0, 2, 0), (.iadd, 1, 0, 0, 0, 0), (.iaload, 1, 0, 0, 0, 0), (.invokevirtual 120, 3, 200, 2, 0, 0), (.if_icmp .eq 620, 3, 1769, 0, 0, 0), (.iconst 0, 1, 0, 0, 0, 0), (.ireturn, 1, 0, 0, 0, 0)]
def zb_0_1154 : List zN := [(.aload_n 1, 1, 0, 0, 0, 0), (.aload_n 0, 1, 0, 0, 0, 0), (.iload_n 3, 1, 0, 0, 0, 0), (.iconst 1, 1, 0, 0, 1, 0), (.iadd, 1, 0, 0, 0, 0), (.iaload, 1, 0, 0, 0, 0), (.aload_n 0, 1, 0, 0, 0, 0), (.iload_n 3, 1, 0, 0, 0, 0), (.iconst 2, 1, 0, 0, 2, 0), (.iadd, 1, 0, 0, 0, 0), (.iaload, 1, 0, 0, 0, 0), (.invokevirtual 121, 3, 103, 2, 0, 0), (.aload_n 2, 1, 0, 0, 0, 0), (.aload_n 0, 1, 0, 0, 0, 0), (.iload_n 3, 1, 0, 0, 0, 0), (.iconst 1, 1, 0, 0, 1, 0), (.iadd, 1, 0, 0, 0, 0), (.iaload, 1, 0, 0, 0, 0), (.aload_n 0, 1, 0, 0, 0, 0), (.iload_n 3, 1, 0, 0, 0, 0), (.iconst 2, 1, 0, 0, 2, 0), (.iadd, 1, 0, 0, 0, 0), (.iaload, 1, 0, 0, 0, 0), (.invokevirtual 124, 3, 201, 2, 0, 0), (.if_icmp .eq 587, 3, 1769, 0, 0, 0), (.iconst 0, 1, 0, 0, 0, 0), (.ireturn, 1, 0, 0, 0, 0)]
def zb_0_1187 : List zN := [(.aload_n 1, 1, 0, 0, 0, 0), (.aload_n 0, 1, 0, 0, 0, 0), (.iload_n 3, 1, 0, 0, 0, 0), (.iconst 1, 1, 0, 0, 1, 0), (.iadd, 1, 0, 0, 0, 0), (.iaload, 1, 0, 0, 0, 0), (.aload_n 0, 1, 0, 0, 0, 0), (.iload_n 3, 1, 0, 0, 0, 0), (.iconst 2, 1, 0, 0, 2, 0), (.iadd, 1, 0, 0, 0, 0), (.iaload, 1, 0, 0, 0, 0), (.invokevirtual 125, 3, 104, 2, 0, 0), (.aload_n 2, 1, 0, 0, 0, 0), (.aload_n 0, 1, 0, 0, 0, 0), (.iload_n 3, 1, 0, 0, 0, 0), (.iconst 1, 1, 0, 0, 1, 0), (.iadd, 1, 0, 0, 0, 0), (.iaload, 1, 0, 0, 0, 0), (.aload_n 0, 1, 0, 0, 0, 0), (.iload_n 3, 1, 0, 0, 0, 0), (.iconst 2, 1, 0, 0, 2, 0), (.iadd, 1, 0, 0, 0, 0), (.iaload, 1, 0, 0, 0, 0), (.invokevirtual 128, 3, 202, 2, 0, 0), (.lcmp, 1, 0, 0, 0, 0), (.ifCond .eq 553, 3, 1769, 0, 0, 0), (.iconst 0, 1, 0, 0, 0, 0), (.ireturn, 1, 0, 0, 0, 0)]
def zb_0_1221 : List zN := [(.aload_n 1, 1, 0, 0, 0, 0), (.aload_n 0, 1, 0, 0, 0, 0), (.iload_n 3, 1, 0, 0, 0, 0), (.iconst 1, 1, 0, 0, 1, 0), (.iadd, 1, 0, 0, 0, 0), (.iaload, 1, 0, 0, 0, 0), (.aload_n 0, 1, 0, 0, 0, 0), (.iload_n 3, 1, 0, 0, 0, 0), (.iconst 2, 1, 0, 0, 2, 0), (.iadd, 1, 0, 0, 0, 0), (.iaload, 1, 0, 0, 0, 0), (.invokevirtual 129, 3, 105, 2, 0, 0), (.aload_n 2, 1, 0, 0, 0, 0), (.aload_n 0, 1, 0, 0, 0, 0), (.iload_n 3, 1, 0, 0, 0, 0), (.iconst 1, 1, 0, 0, 1, 0), (.iadd, 1, 0, 0, 0, 0), (.iaload, 1, 0, 0, 0, 0), (.aload_n 0, 1, 0, 0, 0, 0), (.iload_n 3, 1, 0, 0, 0, 0), (.iconst 2, 1, 0, 0, 2, 0), (.iadd, 1, 0, 0, 0, 0), (.iaload, 1, 0, 0, 0, 0), (.invokevirtual 132, 3, 203, 2, 0, 0), (.if_icmp .eq 520, 3, 1769, 0, 0, 0), (.iconst 0, 1, 0, 0, 0, 0), (.ireturn, 1, 0, 0, 0, 0)]
def zb_0_1254 : List zN := [(.aload_n 1, 1, 0, 0, 0, 0), (.aload_n 0, 1, 0, 0, 0, 0), (.iload_n 3, 1, 0, 0, 0, 0), (.iconst 1, 1, 0, 0, 1, 0), (.iadd, 1, 0, 0, 0, 0), (.iaload, 1, 0, 0, 0, 0), (.aload_n 0, 1, 0, 0, 0, 0), (.iload_n 3, 1, 0, 0, 0, 0), (.iconst 2, 1, 0, 0, 2, 0), (.iadd, 1, 0, 0, 0, 0), (.iaload, 1, 0, 0, 0, 0), (.invokevirtual 133, 3, 106, 2, 0, 0), (.aload_n 2, 1, 0, 0, 0, 0), (.aload_n 0, 1, 0, 0, 0, 0), (.iload_n 3, 1, 0, 0, 0, 0), (.iconst 1, 1, 0, 0, 1, 0), (.iadd, 1, 0, 0, 0, 0), (.iaload, 1, 0, 0, 0, 0), (.aload_n 0, 1, 0, 0, 0, 0), (.iload_n 3, 1, 0, 0, 0, 0), (.iconst 2, 1, 0, 0, 2, 0), (.iadd, 1, 0, 0, 0, 0), (.iaload, 1, 0, 0, 0, 0), (.invokevirtual 136, 3, 204, 2, 0, 0), (.if_icmp .eq 487, 3, 1769, 0, 0, 0), (.iconst 0, 1, 0, 0, 0, 0), (.ireturn, 1, 0, 0, 0, 0)]
def zb_0_1287 : List zN := [(.aload_n 1, 1, 0, 0, 0, 0), (.aload_n 0, 1, 0, 0, 0, 0), (.iload_n 3, 1, 0, 0, 0, 0), (.iconst 1, 1, 0, 0, 1, 0), (.iadd, 1, 0, 0, 0, 0), (.iaload, 1, 0, 0, 0, 0), (.aload_n 0, 1, 0, 0, 0, 0), (.iload_n 3, 1, 0, 0, 0, 0), (.iconst 2, 1, 0, 0, 2, 0), (.iadd, 1, 0, 0, 0, 0), (.iaload, 1, 0, 0, 0, 0), (.aload_n 0, 1, 0, 0, 0, 0), (.iload_n 3, 1, 0, 0, 0, 0), (.iconst 3, 1, 0, 0, 3, 0), (.iadd, 1, 0, 0, 0, 0), (.iaload, 1, 0, 0, 0, 0), (.invokevirtual 137, 3, 107, 3, 0, 0), (.aload_n 2, 1, 0, 0, 0, 0), (.aload_n 0, 1, 0, 0, 0, 0), (.iload_n 3, 1, 0, 0, 0, 0), (.iconst 1, 1, 0, 0, 1, 0), (.iadd, 1, 0, 0, 0, 0), (.iaload, 1, 0, 0, 0, 0), (.aload_n 0, 1, 0, 0, 0, 0), (.iload_n 3, 1, 0, 0, 0, 0), (.iconst 2, 1, 0, 0, 2, 0), (.iadd, 1, 0, 0, 0, 0), (.iaload, 1, 0, 0, 0, 0), (.aload_n 0, 1, 0, 0, 0, 0), (.iload_n 3, 1, 0, 0, 0, 0), (.iconst 3, 1, 0, 0, 3, 0), (.iadd, 1, 0, 0, 0, 0), (.iaload, 1, 0, 0, 0, 0), (.invokevirtual 140, 3, 205, 3, 0, 0), (.if_icmp .eq 444, 3, 1769, 0, 0, 0), (.iconst 0, 1, 0, 0, 0, 0), (.ireturn, 1, 0, 0, 0, 0)]
def zb_0_1330 : List zN := [(.aload_n 1, 1, 0, 0, 0, 0), (.aload_n 0, 1, 0, 0, 0, 0), (.iload_n 3, 1, 0, 0, 0, 0), (.iconst 1, 1, 0, 0, 1, 0), (.iadd, 1, 0, 0, 0, 0), (.iaload, 1, 0, 0, 0, 0), (.aload_n 0, 1, 0, 0, 0, 0), (.iload_n 3, 1, 0, 0, 0, 0), (.iconst 2, 1, 0, 0, 2, 0), (.iadd, 1, 0, 0, 0, 0), (.iaload, 1, 0, 0, 0, 0), (.invokevirtual 141, 3, 108, 2, 0, 0), (.aload_n 2, 1, 0, 0, 0, 0), (.aload_n 0, 1, 0, 0, 0, 0), (.iload_n 3, 1, 0, 0, 0, 0), (.iconst 1, 1, 0, 0, 1, 0), (.iadd, 1, 0, 0, 0, 0), (.iaload, 1, 0, 0, 0, 0), (.aload_n 0, 1, 0, 0, 0, 0), (.iload_n 3, 1, 0, 0, 0, 0), (.iconst 2, 1, 0, 0, 2, 0), (.iadd, 1, 0, 0, 0, 0), (.iaload, 1, 0, 0, 0, 0), (.invokevirtual 144, 3, 206, 2, 0, 0), (.if_icmp .eq 411, 3, 1769, 0, 0, 0), (.iconst 0, 1, 0, 0, 0, 0), (.ireturn, 1, 0, 0, 0, 0)]
def zb_0_1363 : List zN := [(.aload_n 1, 1, 0, 0, 0, 0), (.aload_n 0, 1, 0, 0, 0, 0), (.iload_n 3, 1, 0, 0, 0, 0), (.iconst 1, 1, 0, 0, 1, 0), (.iadd, 1, 0, 0, 0, 0), (.iaload, 1, 0, 0, 0, 0), (.aload_n 0, 1, 0, 0, 0, 0), (.iload_n 3, 1, 0, 0, 0, 0), (.iconst 2, 1, 0, 0, 2, 0), (.iadd, 1, 0, 0, 0, 0), (.iaload, 1, 0, 0, 0, 0), (.aload_n 0, 1, 0, 0, 0, 0), (.iload_n 3, 1, 0, 0, 0, 0), (.iconst 3, 1, 0, 0, 3, 0), (.iadd, 1, 0, 0, 0, 0), (.iaload, 1, 0, 0, 0, 0), (.invokevirtual 145, 3, 109, 3, 0, 0), (.aload_n 2, 1, 0, 0, 0, 0), (.aload_n 0, 1, 0, 0, 0, 0), (.iload_n 3, 1, 0, 0, 0, 0), (.iconst 1, 1, 0, 0, 1, 0), (.iadd, 1, 0, 0, 0, 0), (.iaload, 1, 0, 0, 0, 0), (.aload_n 0, 1, 0, 0, 0, 0), (.iload_n 3, 1, 0, 0, 0, 0), (.iconst 2, 1, 0, 0, 2, 0), (.iadd, 1, 0, 0, 0, 0), (.iaload, 1, 0, 0, 0, 0), (.aload_n 0, 1, 0, 0, 0, 0), (.iload_n 3, 1, 0, 0, 0, 0), (.iconst 3, 1, 0, 0, 3, 0), (.iadd, 1, 0, 0, 0, 0), (.iaload, 1, 0, 0, 0, 0), (.invokevirtual 148, 3, 210, 3, 0, 0), (.if_icmp .eq 368, 3, 1769, 0, 0, 0), (.iconst 0, 1, 0, 0, 0, 0), (.ireturn, 1, 0, 0, 0, 0)]
def zb_0_1406 : List zN := [(.aload_n 1, 1, 0, 0, 0, 0), (.aload_n 0, 1, 0, 0, 0, 0), (.iload_n 3, 1, 0, 0, 0, 0), (.iconst 1, 1, 0, 0, 1, 0), (.iadd, 1, 0, 0, 0, 0), (.iaload, 1, 0, 0, 0, 0), (.aload_n 0, 1, 0, 0, 0, 0), (.iload_n 3, 1, 0, 0, 0, 0), (.iconst 2, 1, 0, 0, 2, 0), (.iadd, 1, 0, 0, 0, 0), (.iaload, 1, 0, 0, 0, 0), (.aload_n 0, 1, 0, 0, 0, 0), (.iload_n 3, 1, 0, 0, 0, 0), (.iconst 3, 1, 0, 0, 3, 0), (.iadd, 1, 0, 0, 0, 0), (.iaload, 1, 0, 0, 0, 0), (.invokevirtual 149, 3, 110, 3, 0, 0), (.aload_n 2, 1, 0, 0, 0, 0), (.aload_n 0, 1, 0, 0, 0, 0), (.iload_n 3, 1, 0, 0, 0, 0), (.iconst 1, 1, 0, 0, 1, 0), (.iadd, 1, 0, 0, 0, 0), (.iaload, 1, 0, 0, 0, 0), (.aload_n 0, 1, 0, 0, 0, 0), (.iload_n 3, 1, 0, 0, 0, 0), (.iconst 2, 1, 0, 0, 2, 0), (.iadd, 1, 0, 0, 0, 0), (.iaload, 1, 0, 0, 0, 0), (.aload_n 0, 1, 0, 0, 0, 0), (.iload_n 3, 1, 0, 0, 0, 0), (.iconst 3, 1, 0, 0, 3, 0), (.iadd, 1, 0, 0, 0, 0), (.iaload, 1, 0, 0, 0, 0), (.invokevirtual 152, 3, 211, 3, 0, 0), (.if_icmp .eq 325, 3, 1769, 0, 0, 0), (.iconst 0, 1, 0, 0, 0, 0), (.ireturn, 1, 0, 0, 0, 0)]
def zb_0_1449 : List zN := [(.aload_n 1, 1, 0, 0, 0, 0), (.aload_n 0, 1, 0, 0, 0, 0), (.iload_n 3, 1, 0, 0, 0, 0), (.iconst 1, 1, 0, 0, 1, 0), (.iadd, 1, 0, 0, 0, 0), (.iaload, 1, 0, 0, 0, 0), (.aload_n 0, 1, 0, 0, 0, 0), (.iload_n 3, 1, 0, 0, 0, 0), (.iconst 2, 1, 0, 0, 2, 0), (.iadd, 1, 0, 0, 0, 0), (.iaload, 1, 0, 0, 0, 0), (.invokevirtual 153, 3, 111, 2, 0, 0), (.aload_n 2, 1, 0, 0, 0, 0), (.aload_n 0, 1, 0, 0, 0, 0), (.iload_n 3, 1, 0, 0, 0, 0), (.iconst 1, 1, 0, 0, 1, 0), (.iadd, 1, 0, 0, 0, 0), (.iaload, 1, 0, 0, 0, 0), (.aload_n 0, 1, 0, 0, 0, 0), (.iload_n 3, 1, 0, 0, 0, 0), (.iconst 2, 1, 0, 0, 2, 0), (.iadd, 1, 0, 0, 0, 0), (.iaload, 1, 0, 0, 0, 0), (.invokevirtual 156, 3, 212, 2, 0, 0), (.if_icmp .eq 292, 3, 1769, 0, 0, 0), (.iconst 0, 1, 0, 0, 0, 0), (.ireturn, 1, 0, 0, 0, 0)]
def zb_0_1482 : List zN := [(.aload_n 1, 1, 0, 0, 0, 0), (.aload_n 0, 1, 0, 0, 0, 0), (.iload_n 3, 1, 0, 0, 0, 0), (.iconst 1, 1, 0, 0, 1, 0), (.iadd, 1, 0, 0, 0, 0), (.iaload, 1, 0, 0, 0, 0), (.aload_n 0, 1, 0, 0, 0, 0), (.iload_n 3, 1, 0, 0, 0, 0), (.iconst 2, 1, 0, 0, 2, 0), (.iadd, 1, 0, 0, 0, 0), (.iaload, 1, 0, 0, 0, 0), (.invokevirtual 157, 3, 112, 2, 0, 0), (.aload_n 2, 1, 0, 0, 0, 0), (.aload_n 0, 1, 0, 0, 0, 0), (.iload_n 3, 1, 0, 0, 0, 0), (.iconst 1, 1, 0, 0, 1, 0), (.iadd, 1, 0, 0, 0, 0), (.iaload, 1, 0, 0, 0, 0), (.aload_n 0, 1, 0, 0, 0, 0), (.iload_n 3, 1, 0, 0, 0, 0), (.iconst 2, 1, 0, 0, 2, 0), (.iadd, 1, 0, 0, 0, 0), (.iaload, 1, 0, 0, 0, 0), (.invokevirtual 160, 3, 213, 2, 0, 0), (.if_icmp .eq 259, 3, 1769, 0, 0, 0), (.iconst 0, 1, 0, 0, 0, 0), (.ireturn, 1, 0, 0, 0, 0)]
def zb_0_1515 : List zN := [(.aload_n 1, 1, 0, 0, 0, 0), (.aload_n 0, 1, 0, 0, 0, 0), (.iload_n 3, 1, 0, 0, 0, 0), (.iconst 1, 1, 0, 0, 1, 0), (.iadd, 1, 0, 0, 0, 0), (.iaload, 1, 0, 0, 0, 0), (.invokevirtual 161, 3, 113, 1, 0, 0), (.aload_n 2, 1, 0, 0, 0, 0), (.aload_n 0, 1, 0, 0, 0, 0), (.iload_n 3, 1, 0, 0, 0, 0), (.iconst 1, 1, 0, 0, 1, 0), (.iadd, 1, 0, 0, 0, 0), (.iaload, 1, 0, 0, 0, 0), (.invokevirtual 164, 3, 214, 1, 0, 0), (.if_icmp .eq 236, 3, 1769, 0, 0, 0), (.iconst 0, 1, 0, 0, 0, 0), (.ireturn, 1, 0, 0, 0, 0)]
def zb_0_1538 : List zN := [(.aload_n 1, 1, 0, 0, 0, 0), (.aload_n 0, 1, 0, 0, 0, 0), (.iload_n 3, 1, 0, 0, 0, 0), (.iconst 1, 1, 0, 0, 1, 0), (.iadd, 1, 0, 0, 0, 0), (.iaload, 1, 0, 0, 0, 0), (.aload_n 0, 1, 0, 0, 0, 0), (.iload_n 3, 1, 0, 0, 0, 0), (.iconst 2, 1, 0, 0, 2, 0), (.iadd, 1, 0, 0, 0, 0), (.iaload, 1, 0, 0, 0, 0), (.invokevirtual 165, 3, 114, 2, 0, 0), (.aload_n 2, 1, 0, 0, 0, 0), (.aload_n 0, 1, 0, 0, 0, 0), (.iload_n 3, 1, 0, 0, 0, 0), (.iconst 1, 1, 0, 0, 1, 0), (.iadd, 1, 0, 0, 0, 0), (.iaload, 1, 0, 0, 0, 0), (.aload_n 0, 1, 0, 0, 0, 0), (.iload_n 3, 1, 0, 0, 0, 0), (.iconst 2, 1, 0, 0, 2, 0), (.iadd, 1, 0, 0, 0, 0), (.iaload, 1, 0, 0, 0, 0), (.invokevirtual 168, 3, 215, 2, 0, 0), (.if_icmp .eq 203, 3, 1769, 0, 0, 0), (.iconst 0, 1, 0, 0, 0, 0), (.ireturn, 1, 0, 0, 0, 0)]
def zb_0_1571 : List zN := [(.aload_n 1, 1, 0, 0, 0, 0), (.aload_n 0, 1, 0, 0, 0, 0), (.iload_n 3, 1, 0, 0, 0, 0), (.iconst 1, 1, 0, 0, 1, 0), (.iadd, 1, 0, 0, 0, 0), (.iaload, 1, 0, 0, 0, 0), (.aload_n 0, 1, 0, 0, 0, 0), (.iload_n 3, 1, 0, 0, 0, 0), (.iconst 2, 1, 0, 0, 2, 0), (.iadd, 1, 0, 0, 0, 0), (.iaload, 1, 0, 0, 0, 0), (.aload_n 0, 1, 0, 0, 0, 0), (.iload_n 3, 1, 0, 0, 0, 0), (.iconst 3, 1, 0, 0, 3, 0), (.iadd, 1, 0, 0, 0, 0), (.iaload, 1, 0, 0, 0, 0), (.aload_n 0, 1, 0, 0, 0, 0), (.iload_n 3, 1, 0, 0, 0, 0), (.iconst 4, 1, 0, 0, 4, 0), (.iadd, 1, 0, 0, 0, 0), (.iaload, 1, 0, 0, 0, 0), (.invokevirtual 169, 3, 118, 4, 0, 0), (.aload_n 2, 1, 0, 0, 0, 0), (.aload_n 0, 1, 0, 0, 0, 0), (.iload_n 3, 1, 0, 0, 0, 0), (.iconst 1, 1, 0, 0, 1, 0), (.iadd, 1, 0, 0, 0, 0), (.iaload, 1, 0, 0, 0, 0), (.aload_n 0, 1, 0, 0, 0, 0), (.iload_n 3, 1, 0, 0, 0, 0), (.iconst 2, 1, 0, 0, 2, 0), (.iadd, 1, 0, 0, 0, 0), (.iaload, 1, 0, 0, 0, 0), (.aload_n 0, 1, 0, 0, 0, 0), (.iload_n 3, 1, 0, 0, 0, 0), (.iconst 3, 1, 0, 0, 3, 0), (.iadd, 1, 0, 0, 0, 0), (.iaload, 1, 0, 0, 0, 0), (.aload_n 0, 1, 0, 0, 0, 0), (.iload_n 3, 1, 0, 0, 0, 0), (.iconst 4, 1, 0, 0, 4, 0), (.iadd, 1, 0, 0, 0, 0), (.iaload, 1, 0, 0, 0, 0), (.invokevirtual 172, 3, 217, 4, 0, 0), (.if_icmp .eq 150, 3, 1769, 0, 0, 0), (.iconst 0, 1, 0, 0, 0, 0), (.ireturn, 1, 0, 0, 0, 0)]
def zb_0_1624 : List zN := [(.aload_n 1, 1, 0, 0, 0, 0), (.aload_n 0, 1, 0, 0, 0, 0), (.iload_n 3, 1, 0, 0, 0, 0), (.iconst 1, 1, 0, 0, 1, 0), (.iadd, 1, 0, 0, 0, 0), (.iaload, 1, 0, 0, 0, 0), (.aload_n 0, 1, 0, 0, 0, 0), (.iload_n 3, 1, 0, 0, 0, 0), (.iconst 2, 1, 0, 0, 2, 0), (.iadd, 1, 0, 0, 0, 0), (.iaload, 1, 0, 0, 0, 0), (.invokevirtual 173, 3, 120, 2, 0, 0), (.aload_n 2, 1, 0, 0, 0, 0), (.aload_n 0, 1, 0, 0, 0, 0), (.iload_n 3, 1, 0, 0, 0, 0), (.iconst 1, 1, 0, 0, 1, 0), (.iadd, 1, 0, 0, 0, 0), (.iaload, 1, 0, 0, 0, 0), (.aload_n 0, 1, 0, 0, 0, 0), (.iload_n 3, 1, 0, 0, 0, 0), (.iconst 2, 1, 0, 0, 2, 0), (.iadd, 1, 0, 0, 0, 0), (.iaload, 1, 0, 0, 0, 0), (.invokevirtual 176, 3, 219, 2, 0, 0), (.if_icmp .eq 117, 3, 1769, 0, 0, 0), (.iconst 0, 1, 0, 0, 0, 0), (.ireturn, 1, 0, 0, 0, 0)]
def zb_0_1657 : List zN := [(.aload_n 1, 1, 0, 0, 0, 0), (.aload_n 0, 1, 0, 0, 0, 0), (.iload_n 3, 1, 0, 0, 0, 0), (.iconst 1, 1, 0, 0, 1, 0), (.iadd, 1, 0, 0, 0, 0), (.iaload, 1, 0, 0, 0, 0), (.aload_n 0, 1, 0, 0, 0, 0), (.iload_n 3, 1, 0, 0, 0, 0), (.iconst 2, 1, 0, 0, 2, 0), (.iadd, 1, 0, 0, 0, 0), (.iaload, 1, 0, 0, 0, 0), (.aload_n 0, 1, 0, 0, 0, 0), (.iload_n 3, 1, 0, 0, 0, 0), (.iconst 3, 1, 0, 0, 3, 0), (.iadd, 1, 0, 0, 0, 0), (.iaload, 1, 0, 0, 0, 0), (.invokevirtual 177, 3, 121, 3, 0, 0), (.aload_n 2, 1, 0, 0, 0, 0), (.aload_n 0, 1, 0, 0, 0, 0), (.iload_n 3, 1, 0, 0, 0, 0), (.iconst 1, 1, 0, 0, 1, 0), (.iadd, 1, 0, 0, 0, 0), (.iaload, 1, 0, 0, 0, 0), (.aload_n 0, 1, 0, 0, 0, 0), (.iload_n 3, 1, 0, 0, 0, 0), (.iconst 2, 1, 0, 0, 2, 0), (.iadd, 1, 0, 0, 0, 0), (.iaload, 1, 0, 0, 0, 0), (.aload_n 0, 1, 0, 0, 0, 0), (.iload_n 3, 1, 0, 0, 0, 0), (.iconst 3, 1, 0, 0, 3, 0), (.iadd, 1, 0, 0, 0, 0), (.iaload, 1, 0, 0, 0, 0), (.invokevirtual 180, 3, 221, 3, 0, 0), (.if_icmp .eq 74, 3, 1769, 0, 0, 0), (.iconst 0, 1, 0, 0, 0, 0), (.ireturn, 1, 0, 0, 0, 0)]
def zb_0_1700 : List zN := [(.aload_n 1, 1, 0, 0, 0, 0), (.aload_n 0, 1, 0, 0, 0, 0), (.iload_n 3, 1, 0, 0, 0, 0), (.iconst 1, 1, 0, 0, 1, 0), (.iadd, 1, 0, 0, 0, 0), (.iaload, 1, 0, 0, 0, 0), (.aload_n 0, 1, 0, 0, 0, 0), (.iload_n 3, 1, 0, 0, 0, 0), (.iconst 2, 1, 0, 0, 2, 0), (.iadd, 1, 0, 0, 0, 0), (.iaload, 1, 0, 0, 0, 0), (.invokevirtual 181, 3, 122, 2, 0, 0), (.aload_n 2, 1, 0, 0, 0, 0), (.aload_n 0, 1, 0, 0, 0, 0), (.iload_n 3, 1, 0, 0, 0, 0), (.iconst 1, 1, 0, 0, 1, 0), (.iadd, 1, 0, 0, 0, 0), (.iaload, 1, 0, 0, 0, 0), (.aload_n 0, 1, 0, 0, 0, 0), (.iload_n 3, 1, 0, 0, 0, 0), (.iconst 2, 1, 0, 0, 2, 0), (.iadd, 1, 0, 0, 0, 0), (.iaload, 1, 0, 0, 0, 0), (.invokevirtual 184, 3, 222, 2, 0, 0), (.if_icmp .eq 41, 3, 1769, 0, 0, 0), (.iconst 0, 1, 0, 0, 0, 0), (.ireturn, 1, 0, 0, 0, 0)]
def zb_0_1733 : List zN := [(.aload_n 1, 1, 0, 0, 0, 0), (.aload_n 0, 1, 0, 0, 0, 0), (.iload_n 3, 1, 0, 0, 0, 0), (.iconst 1, 1, 0, 0, 1, 0), (.iadd, 1, 0, 0, 0, 0), (.iaload, 1, 0, 0, 0, 0), (.invokevirtual 185, 3, 123, 1, 0, 0), (.aload_n 2, 1, 0, 0, 0, 0), (.aload_n 0, 1, 0, 0, 0, 0), (.iload_n 3, 1, 0, 0, 0, 0), (.iconst 1, 1, 0, 0, 1, 0), (.iadd, 1, 0, 0, 0, 0), (.iaload, 1, 0, 0, 0, 0), (.invokevirtual 188, 3, 223, 1, 0, 0), (.if_icmp .eq 18, 3, 1769, 0, 0, 0), (.iconst 0, 1, 0, 0, 0, 0), (.ireturn, 1, 0, 0, 0, 0)]
def zb_0_1756 : List zN := [(.aload_n 1, 1, 0, 0, 0, 0), (.invokevirtual 189, 3, 124, 0, 0, 0), (.aload_n 2, 1, 0, 0, 0, 0), (.invokevirtual 192, 3, 225, 0, 0, 0), (.if_icmp .eq 5, 3, 1769, 0, 0, 0), (.iconst 0, 1, 0, 0, 0, 0), (.ireturn, 1, 0, 0, 0, 0)]
def zb_0_1769 : List zN := [(.iinc 3 7, 3, 0, 0, 7, 0), (.goto (-1754), 3, 18, 0, 0, 0)]
def zb_0_1775 : List zN := [(.iconst 1, 1, 0, 0, 1, 0), (.ireturn, 1, 0, 0, 0, 0)]
def zc_0 (pc : Nat) : List zN := if pc = 18 then zb_0_18 else if pc = 220 then zb_0_220 else if pc = 243 then zb_0_243 else if pc = 276 then zb_0_276 else if pc = 309 then zb_0_309 else if pc = 352 then zb_0_352 else if pc = 405 then zb_0_405 else if pc = 448 then zb_0_448 else if pc = 491 then zb_0_491 else if pc = 534 then zb_0_534 else if pc = 567 then zb_0_567 else if pc = 642 then zb_0_642 else if pc = 665 then zb_0_665 else if pc = 688 then zb_0_688 else if pc = 689 then zb_0_689 else if pc = 720 then zb_0_720 else if pc = 721 then zb_0_721 else if pc = 734 then zb_0_734 else if pc = 777 then zb_0_777 else if pc = 820 then zb_0_820 else if pc = 863 then zb_0_863 else if pc = 906 then zb_0_906 else if pc = 939 then zb_0_939 else if pc = 972 then zb_0_972 else if pc = 995 then zb_0_995 else if pc = 1008 then zb_0_1008 else if pc = 1031 then zb_0_1031 else if pc = 1054 then zb_0_1054 else if pc = 1087 then zb_0_1087 else if pc = 1121 then zb_0_1121 else if pc = 1154 then zb_0_1154 else if pc = 1187 then zb_0_1187 else if pc = 1221 then zb_0_1221 else if pc = 1254 then zb_0_1254 else if pc = 1287 then zb_0_1287 else if pc = 1330 then zb_0_1330 else if pc = 1363 then zb_0_1363 else if pc = 1406 then zb_0_1406 else if pc = 1449 then zb_0_1449 else if pc = 1482 then zb_0_1482 else if pc = 1515 then zb_0_1515 else if pc = 1538 then zb_0_1538 else if pc = 1571 then zb_0_1571 else if pc = 1624 then zb_0_1624 else if pc = 1657 then zb_0_1657 else if pc = 1700 then zb_0_1700 else if pc = 1733 then zb_0_1733 else if pc = 1756 then zb_0_1756 else if pc = 1769 then zb_0_1769 else if pc = 1775 then zb_0_1775 else []
def zb_1_0 : List zN := [(.aload_n 0, 1, 0, 0, 0, 0), (.aload_n 1, 1, 0, 0, 0, 0), (.getfield 50, 3, 0, 0, 0, 0), (.putfield 50, 3, 0, 0, 0, 0), (.aload_n 0, 1, 0, 0, 0, 0), (.aload_n 1, 1, 0, 0, 0, 0), (.getfield 9, 3, 0, 1, 0, 0), (.putfield 9, 3, 0, 1, 0, 0), (.aload_n 0, 1, 0, 0, 0, 0), (.aload_n 1, 1, 0, 0, 0, 0), (.getfield 15, 3, 0, 2, 0, 0), (.putfield 15, 3, 0, 2, 0, 0), (.aload_n 0, 1, 0, 0, 0, 0), (.aload_n 1, 1, 0, 0, 0, 0), (.getfield 53, 3, 0, 3, 0, 0), (.putfield 53, 3, 0, 3, 0, 0), (.aload_n 0, 1, 0, 0, 0, 0), (.aload_n 1, 1, 0, 0, 0, 0), (.getfield 56, 3, 0, 4, 0, 0), (.putfield 56, 3, 0, 4, 0, 0), (.aload_n 0, 1, 0, 0, 0, 0), (.aload_n 1, 1, 0, 0, 0, 0), (.getfield 59, 3, 0, 5, 0, 0), (.putfield 59, 3, 0, 5, 0, 0), (.iconst 0, 1, 0, 0, 0, 0), (.istore_n 2, 1, 0, 0, 0, 0)]
def zb_1_50 : List zN := [(.iload_n 2, 1, 0, 0, 0, 0), (.aload_n 0, 1, 0, 0, 0, 0), (.getfield 53, 3, 0, 3, 0, 0), (.if_icmp .ge 24, 3, 79, 0, 0, 0), (.aload_n 0, 1, 0, 0, 0, 0), (.getfield 20, 3, 0, 6, 0, 0), (.iload_n 2, 1, 0, 0, 0, 0), (.aaload, 1, 0, 0, 0, 0), (.aload_n 1, 1, 0, 0, 0, 0), (.getfield 20, 3, 0, 6, 0, 0), (.iload_n 2, 1, 0, 0, 0, 0), (.aaload, 1, 0, 0, 0, 0), (.invokevirtual 62, 3, 45, 1, 0, 0), (.iinc 2 1, 3, 0, 0, 1, 0), (.goto (-26), 3, 50, 0, 0, 0)]
def zb_1_79 : List zN := [(.iconst 0, 1, 0, 0, 0, 0), (.istore_n 2, 1, 0, 0, 0, 0)]
def zb_1_81 : List zN := [(.iload_n 2, 1, 0, 0, 0, 0), (.aload_n 0, 1, 0, 0, 0, 0), (.getfield 56, 3, 0, 4, 0, 0), (.if_icmp .ge 24, 3, 110, 0, 0, 0), (.aload_n 0, 1, 0, 0, 0, 0), (.getfield 26, 3, 0, 7, 0, 0), (.iload_n 2, 1, 0, 0, 0, 0), (.aaload, 1, 0, 0, 0, 0), (.aload_n 1, 1, 0, 0, 0, 0), (.getfield 26, 3, 0, 7, 0, 0), (.iload_n 2, 1, 0, 0, 0, 0), (.aaload, 1, 0, 0, 0, 0), (.invokevirtual 66, 3, 64, 1, 0, 0), (.iinc 2 1, 3, 0, 0, 1, 0), (.goto (-26), 3, 81, 0, 0, 0)]
def zb_1_110 : List zN := [(.iconst 0, 1, 0, 0, 0, 0), (.istore_n 2, 1, 0, 0, 0, 0)]
def zb_1_112 : List zN := [(.iload_n 2, 1, 0, 0, 0, 0), (.iconst 5, 1, 0, 0, 5, 0), (.if_icmp .ge 24, 3, 138, 0, 0, 0), (.aload_n 0, 1, 0, 0, 0, 0), (.getfield 32, 3, 0, 8, 0, 0), (.iload_n 2, 1, 0, 0, 0, 0), (.aaload, 1, 0, 0, 0, 0), (.aload_n 1, 1, 0, 0, 0, 0), (.getfield 32, 3, 0, 8, 0, 0), (.iload_n 2, 1, 0, 0, 0, 0), (.aaload, 1, 0, 0, 0, 0), (.invokevirtual 69, 3, 49, 1, 0, 0), (.iinc 2 1, 3, 0, 0, 1, 0), (.goto (-23), 3, 112, 0, 0, 0)]
def zb_1_138 : List zN := [(.iconst 0, 1, 0, 0, 0, 0), (.istore_n 2, 1, 0, 0, 0, 0)]
def zb_1_140 : List zN := [(.iload_n 2, 1, 0, 0, 0, 0), (.aload_n 0, 1, 0, 0, 0, 0), (.getfield 59, 3, 0, 5, 0, 0), (.if_icmp .ge 24, 3, 169, 0, 0, 0), (.aload_n 0, 1, 0, 0, 0, 0), (.getfield 38, 3, 0, 9, 0, 0), (.iload_n 2, 1, 0, 0, 0, 0), (.aaload, 1, 0, 0, 0, 0), (.aload_n 1, 1, 0, 0, 0, 0), (.getfield 38, 3, 0, 9, 0, 0), (.iload_n 2, 1, 0, 0, 0, 0), (.aaload, 1, 0, 0, 0, 0), (.invokevirtual 72, 3, 58, 1, 0, 0), (.iinc 2 1, 3, 0, 0, 1, 0), (.goto (-26), 3, 140, 0, 0, 0)]
def zb_1_169 : List zN := [(.return_, 1, 0, 0, 0, 0)]
def zc_1 (pc : Nat) : List zN := if pc = 0 then zb_1_0 else if pc = 50 then zb_1_50 else if pc = 79 then zb_1_79 else if pc = 81 then zb_1_81 else if pc = 110 then zb_1_110 else if pc = 112 then zb_1_112 else if pc = 138 then zb_1_138 else if pc = 140 then zb_1_140 else if pc = 169 then zb_1_169 else []
def zb_2_0 : List zN := [(.aload_n 0, 1, 0, 0, 0, 0), (.getfield 53, 3, 0, 3, 0, 0), (.istore_n 2, 1, 0, 0, 0, 0), (.aload_n 0, 1, 0, 0, 0, 0), (.getfield 20, 3, 0, 6, 0, 0), (.iload_n 2, 1, 0, 0, 0, 0), (.aaload, 1, 0, 0, 0, 0), (.iload_n 1, 1, 0, 0, 0, 0), (.invokevirtual 86, 3, 46, 1, 0, 0), (.aload_n 0, 1, 0, 0, 0, 0), (.dup, 1, 0, 0, 0, 0), (.getfield 53, 3, 0, 3, 0, 0), (.iconst 1, 1, 0, 0, 1, 0), (.iadd, 1, 0, 0, 0, 0), (.putfield 53, 3, 0, 3, 0, 0), (.iload_n 2, 1, 0, 0, 0, 0), (.ireturn, 1, 0, 0, 0, 0)]
def zc_2 (pc : Nat) : List zN := if pc = 0 then zb_2_0 else []
def zb_3_0 : List zN := [(.aload_n 0, 1, 0, 0, 0, 0), (.invokevirtual 184, 3, 4, 0, 0, 0), (.istore_n 1, 1, 0, 0, 0, 0), (.iconst 0, 1, 0, 0, 0, 0), (.istore_n 2, 1, 0, 0, 0, 0)]
def zb_3_7 : List zN := [(.iload_n 2, 1, 0, 0, 0, 0), (.iload_n 1, 1, 0, 0, 0, 0), (.if_icmp .ge 77, 3, 86, 0, 0, 0), (.aload_n 0, 1, 0, 0, 0, 0), (.getfield 38, 3, 0, 9, 0, 0), (.aload_n 0, 1, 0, 0, 0, 0), (.iload_n 2, 1, 0, 0, 0, 0), (.invokevirtual 187, 3, 6, 1, 0, 0), (.aaload, 1, 0, 0, 0, 0), (.astore_n 3, 1, 0, 0, 0, 0), (.aload_n 0, 1, 0, 0, 0, 0), (.aload_n 3, 1, 0, 0, 0, 0), (.invokevirtual 159, 3, 7, 1, 0, 0), (.istore 4, 2, 0, 0, 0, 0), (.iload 4, 2, 0, 0, 0, 0), (.aload_n 0, 1, 0, 0, 0, 0), (.aload_n 0, 1, 0, 0, 0, 0), (.getfield 26, 3, 0, 7, 0, 0), (.aload_n 3, 1, 0, 0, 0, 0), (.getfield 143, 3, 3, 1, 0, 0), (.aaload, 1, 0, 0, 0, 0), (.invokevirtual 165, 3, 8, 1, 0, 0), (.if_icmp .gt 26, 3, 71, 0, 0, 0), (.aload_n 3, 1, 0, 0, 0, 0), (.iconst 1, 1, 0, 0, 1, 0), (.putfield 93, 3, 3, 0, 0, 0), (.aload_n 3, 1, 0, 0, 0, 0), (.aload_n 0, 1, 0, 0, 0, 0), (.getfield 50, 3, 0, 0, 0, 0), (.putfield 128, 3, 3, 7, 0, 0), (.aload_n 0, 1, 0, 0, 0, 0), (.aload_n 3, 1, 0, 0, 0, 0), (.iload 4, 2, 0, 0, 0, 0), (.invokevirtual 169, 3, 9, 2, 0, 0), (.goto 12, 3, 80, 0, 0, 0)]
def zb_3_71 : List zN := [(.aload_n 0, 1, 0, 0, 0, 0), (.getfield 15, 3, 0, 2, 0, 0), (.iconst 1, 1, 0, 0, 1, 0), (.if_icmp .ne 4, 3, 80, 0, 0, 0), (.return_, 1, 0, 0, 0, 0)]
def zb_3_80 : List zN := [(.iinc 2 1, 3, 0, 0, 1, 0), (.goto (-76), 3, 7, 0, 0, 0)]
def zb_3_86 : List zN := [(.return_, 1, 0, 0, 0, 0)]
def zc_3 (pc : Nat) : List zN := if pc = 0 then zb_3_0 else if pc = 7 then zb_3_7 else if pc = 71 then zb_3_71 else if pc = 80 then zb_3_80 else if pc = 86 then zb_3_86 else []
def zb_4_0 : List zN := [(.aload_n 0, 1, 0, 0, 0, 0), (.iconst 0, 1, 0, 0, 0, 0), (.putfield 263, 3, 0, 11, 0, 0), (.iconst 0, 1, 0, 0, 0, 0), (.istore_n 1, 1, 0, 0, 0, 0)]
def zb_4_7 : List zN := [(.iload_n 1, 1, 0, 0, 0, 0), (.aload_n 0, 1, 0, 0, 0, 0), (.getfield 59, 3, 0, 5, 0, 0), (.if_icmp .ge 35, 3, 47, 0, 0, 0), (.aload_n 0, 1, 0, 0, 0, 0), (.getfield 38, 3, 0, 9, 0, 0), (.iload_n 1, 1, 0, 0, 0, 0), (.aaload, 1, 0, 0, 0, 0), (.getfield 93, 3, 3, 0, 0, 0), (.ifCond .ne 17, 3, 41, 0, 0, 0), (.aload_n 0, 1, 0, 0, 0, 0), (.aload_n 0, 1, 0, 0, 0, 0), (.getfield 38, 3, 0, 9, 0, 0), (.iload_n 1, 1, 0, 0, 0, 0), (.aaload, 1, 0, 0, 0, 0), (.getfield 253, 3, 3, 6, 0, 0), (.iload_n 1, 1, 0, 0, 0, 0), (.invokevirtual 266, 3, 5, 2, 0, 0)]
def zb_4_41 : List zN := [(.iinc 1 1, 3, 0, 0, 1, 0), (.goto (-37), 3, 7, 0, 0, 0)]
def zb_4_47 : List zN := [(.aload_n 0, 1, 0, 0, 0, 0), (.getfield 263, 3, 0, 11, 0, 0), (.ireturn, 1, 0, 0, 0, 0)]
def zc_4 (pc : Nat) : List zN := if pc = 0 then zb_4_0 else if pc = 7 then zb_4_7 else if pc = 41 then zb_4_41 else if pc = 47 then zb_4_47 else []
def zb_5_0 : List zN := [(.aload_n 0, 1, 0, 0, 0, 0), (.getfield 263, 3, 0, 11, 0, 0), (.bipush 40, 2, 0, 0, 40, 0), (.if_icmp .lt 4, 3, 10, 0, 0, 0), (.return_, 1, 0, 0, 0, 0)]
def zb_5_10 : List zN := [(.iload_n 1, 1, 0, 0, 0, 0), (.bipush 40, 2, 0, 0, 40, 0), (.imul, 1, 0, 0, 0, 0), (.iload_n 2, 1, 0, 0, 0, 0), (.iadd, 1, 0, 0, 0, 0), (.istore_n 3, 1, 0, 0, 0, 0), (.aload_n 0, 1, 0, 0, 0, 0), (.getfield 263, 3, 0, 11, 0, 0), (.istore 4, 2, 0, 0, 0, 0)]
def zb_5_23 : List zN := [(.iload 4, 2, 0, 0, 0, 0), (.ifCond .le 38, 3, 63, 0, 0, 0), (.aload_n 0, 1, 0, 0, 0, 0), (.getfield 42, 3, 0, 10, 0, 0), (.iload 4, 2, 0, 0, 0, 0), (.iconst 1, 1, 0, 0, 1, 0), (.isub, 1, 0, 0, 0, 0), (.iaload, 1, 0, 0, 0, 0), (.iload_n 3, 1, 0, 0, 0, 0), (.if_icmp .le 25, 3, 63, 0, 0, 0), (.aload_n 0, 1, 0, 0, 0, 0), (.getfield 42, 3, 0, 10, 0, 0), (.iload 4, 2, 0, 0, 0, 0), (.aload_n 0, 1, 0, 0, 0, 0), (.getfield 42, 3, 0, 10, 0, 0), (.iload 4, 2, 0, 0, 0, 0), (.iconst 1, 1, 0, 0, 1, 0), (.isub, 1, 0, 0, 0, 0), (.iaload, 1, 0, 0, 0, 0), (.iastore, 1, 0, 0, 0, 0), (.iinc 4 (-1), 3, 0, 0, (-1), 0), (.goto (-37), 3, 23, 0, 0, 0)]
def zb_5_63 : List zN := [(.aload_n 0, 1, 0, 0, 0, 0), (.getfield 42, 3, 0, 10, 0, 0), (.iload 4, 2, 0, 0, 0, 0), (.iload_n 3, 1, 0, 0, 0, 0), (.iastore, 1, 0, 0, 0, 0), (.aload_n 0, 1, 0, 0, 0, 0), (.dup, 1, 0, 0, 0, 0), (.getfield 263, 3, 0, 11, 0, 0), (.iconst 1, 1, 0, 0, 1, 0), (.iadd, 1, 0, 0, 0, 0), (.putfield 263, 3, 0, 11, 0, 0), (.return_, 1, 0, 0, 0, 0)]
def zc_5 (pc : Nat) : List zN := if pc = 0 then zb_5_0 else if pc = 10 then zb_5_10 else if pc = 23 then zb_5_23 else if pc = 63 then zb_5_63 else []
def zb_6_0 : List zN := [(.iload_n 1, 1, 0, 0, 0, 0), (.ifCond .lt 23, 3, 24, 0, 0, 0), (.iload_n 1, 1, 0, 0, 0, 0), (.aload_n 0, 1, 0, 0, 0, 0), (.getfield 263, 3, 0, 11, 0, 0), (.if_icmp .ge 15, 3, 24, 0, 0, 0), (.aload_n 0, 1, 0, 0, 0, 0), (.getfield 42, 3, 0, 10, 0, 0), (.iload_n 1, 1, 0, 0, 0, 0), (.iaload, 1, 0, 0, 0, 0), (.bipush 40, 2, 0, 0, 40, 0), (.irem, 1, 0, 0, 0, 0), (.goto 4, 3, 25, 0, 0, 0)]
def zb_6_24 : List zN := [(.iconst 0, 1, 0, 0, 0, 0)]
def zb_6_25 : List zN := [(.ireturn, 1, 0, 0, 0, 0)]
def zc_6 (pc : Nat) : List zN := if pc = 0 then zb_6_0 else if pc = 24 then zb_6_24 else if pc = 25 then zb_6_25 else []
def zb_7_0 : List zN := [(.aload_n 1, 1, 0, 0, 0, 0), (.getfield 93, 3, 3, 0, 0, 0), (.ifCond .ne 34, 3, 38, 0, 0, 0), (.aload_n 1, 1, 0, 0, 0, 0), (.invokevirtual 115, 3, 59, 0, 0, 0), (.aload_n 0, 1, 0, 0, 0, 0), (.getfield 32, 3, 0, 8, 0, 0), (.aload_n 1, 1, 0, 0, 0, 0), (.getfield 118, 3, 3, 3, 0, 0), (.aaload, 1, 0, 0, 0, 0), (.aload_n 0, 1, 0, 0, 0, 0), (.getfield 50, 3, 0, 0, 0, 0), (.aload_n 0, 1, 0, 0, 0, 0), (.getfield 50, 3, 0, 0, 0, 0), (.aload_n 1, 1, 0, 0, 0, 0), (.getfield 121, 3, 3, 5, 0, 0), (.iadd, 1, 0, 0, 0, 0), (.invokevirtual 124, 3, 50, 2, 0, 0), (.imul, 1, 0, 0, 0, 0), (.ireturn, 1, 0, 0, 0, 0)]
def zb_7_38 : List zN := [(.aload_n 1, 1, 0, 0, 0, 0), (.getfield 93, 3, 3, 0, 0, 0), (.iconst 1, 1, 0, 0, 1, 0), (.if_icmp .ne 29, 3, 72, 0, 0, 0), (.aload_n 1, 1, 0, 0, 0, 0), (.invokevirtual 115, 3, 59, 0, 0, 0), (.aload_n 0, 1, 0, 0, 0, 0), (.getfield 32, 3, 0, 8, 0, 0), (.aload_n 1, 1, 0, 0, 0, 0), (.getfield 118, 3, 3, 3, 0, 0), (.aaload, 1, 0, 0, 0, 0), (.aload_n 1, 1, 0, 0, 0, 0), (.getfield 128, 3, 3, 7, 0, 0), (.aload_n 1, 1, 0, 0, 0, 0), (.invokevirtual 131, 3, 60, 0, 0, 0), (.invokevirtual 124, 3, 50, 2, 0, 0), (.imul, 1, 0, 0, 0, 0), (.ireturn, 1, 0, 0, 0, 0)]
def zb_7_72 : List zN := [(.iconst 0, 1, 0, 0, 0, 0), (.ireturn, 1, 0, 0, 0, 0)]
def zc_7 (pc : Nat) : List zN := if pc = 0 then zb_7_0 else if pc = 38 then zb_7_38 else if pc = 72 then zb_7_72 else []
def zb_8_0 : List zN := [(.iconst 0, 1, 0, 0, 0, 0), (.istore_n 2, 1, 0, 0, 0, 0), (.iconst 0, 1, 0, 0, 0, 0), (.istore_n 3, 1, 0, 0, 0, 0)]
def zb_8_4 : List zN := [(.iload_n 3, 1, 0, 0, 0, 0), (.aload_n 1, 1, 0, 0, 0, 0), (.getfield 105, 3, 4, 2, 0, 0), (.if_icmp .ge 26, 3, 35, 0, 0, 0), (.iload_n 2, 1, 0, 0, 0, 0), (.aload_n 0, 1, 0, 0, 0, 0), (.getfield 20, 3, 0, 6, 0, 0), (.aload_n 1, 1, 0, 0, 0, 0), (.getfield 108, 3, 4, 1, 0, 0), (.iload_n 3, 1, 0, 0, 0, 0), (.iaload, 1, 0, 0, 0, 0), (.aaload, 1, 0, 0, 0, 0), (.invokevirtual 111, 3, 47, 0, 0, 0), (.iadd, 1, 0, 0, 0, 0), (.istore_n 2, 1, 0, 0, 0, 0), (.iinc 3 1, 3, 0, 0, 1, 0), (.goto (-28), 3, 4, 0, 0, 0)]
def zb_8_35 : List zN := [(.iload_n 2, 1, 0, 0, 0, 0), (.ireturn, 1, 0, 0, 0, 0)]
def zc_8 (pc : Nat) : List zN := if pc = 0 then zb_8_0 else if pc = 4 then zb_8_4 else if pc = 35 then zb_8_35 else []
def zb_9_0 : List zN := [(.aload_n 0, 1, 0, 0, 0, 0), (.getfield 26, 3, 0, 7, 0, 0), (.aload_n 1, 1, 0, 0, 0, 0), (.getfield 143, 3, 3, 1, 0, 0), (.aaload, 1, 0, 0, 0, 0), (.astore_n 3, 1, 0, 0, 0, 0), (.iload_n 2, 1, 0, 0, 0, 0), (.istore 4, 2, 0, 0, 0, 0), (.iconst 0, 1, 0, 0, 0, 0), (.istore 5, 2, 0, 0, 0, 0)]
def zb_9_16 : List zN := [(.iload 5, 2, 0, 0, 0, 0), (.aload_n 3, 1, 0, 0, 0, 0), (.getfield 105, 3, 4, 2, 0, 0), (.if_icmp .ge 71, 3, 93, 0, 0, 0), (.aload_n 0, 1, 0, 0, 0, 0), (.getfield 20, 3, 0, 6, 0, 0), (.aload_n 3, 1, 0, 0, 0, 0), (.getfield 108, 3, 4, 1, 0, 0), (.iload 5, 2, 0, 0, 0, 0), (.iaload, 1, 0, 0, 0, 0), (.aaload, 1, 0, 0, 0, 0), (.astore 6, 2, 0, 0, 0, 0), (.iload 4, 2, 0, 0, 0, 0), (.aload 6, 2, 0, 0, 0, 0), (.invokevirtual 111, 3, 47, 0, 0, 0), (.invokestatic 134, 3, 227, 2, 0, 0), (.istore 7, 2, 0, 0, 0, 0), (.aload 6, 2, 0, 0, 0, 0), (.dup, 1, 0, 0, 0, 0), (.getfield 96, 3, 1, 1, 0, 0), (.iload 7, 2, 0, 0, 0, 0), (.iadd, 1, 0, 0, 0, 0), (.putfield 96, 3, 1, 1, 0, 0), (.aload_n 1, 1, 0, 0, 0, 0), (.getfield 146, 3, 3, 15, 0, 0), (.aload_n 3, 1, 0, 0, 0, 0), (.getfield 108, 3, 4, 1, 0, 0), (.iload 5, 2, 0, 0, 0, 0), (.iaload, 1, 0, 0, 0, 0), (.dup2, 1, 0, 0, 0, 0), (.iaload, 1, 0, 0, 0, 0), (.iload 7, 2, 0, 0, 0, 0), (.iadd, 1, 0, 0, 0, 0), (.iastore, 1, 0, 0, 0, 0), (.iload 4, 2, 0, 0, 0, 0), (.iload 7, 2, 0, 0, 0, 0), (.isub, 1, 0, 0, 0, 0), (.istore 4, 2, 0, 0, 0, 0), (.iinc 5 1, 3, 0, 0, 1, 0), (.goto (-74), 3, 16, 0, 0, 0)]
def zb_9_93 : List zN := [(.aload_n 1, 1, 0, 0, 0, 0), (.dup, 1, 0, 0, 0, 0), (.getfield 149, 3, 3, 13, 0, 0), (.iload_n 2, 1, 0, 0, 0, 0), (.iload 4, 2, 0, 0, 0, 0), (.isub, 1, 0, 0, 0, 0), (.i2l, 1, 0, 0, 0, 0), (.ladd, 1, 0, 0, 0, 0), (.putfield 149, 3, 3, 13, 0, 0), (.return_, 1, 0, 0, 0, 0)]
def zc_9 (pc : Nat) : List zN := if pc = 0 then zb_9_0 else if pc = 16 then zb_9_16 else if pc = 93 then zb_9_93 else []
def zb_10_0 : List zN := [(.iload_n 1, 1, 0, 0, 0, 0), (.ifCond .lt 15, 3, 16, 0, 0, 0), (.iload_n 1, 1, 0, 0, 0, 0), (.aload_n 0, 1, 0, 0, 0, 0), (.getfield 53, 3, 0, 3, 0, 0), (.if_icmp .ge 7, 3, 16, 0, 0, 0), (.iconst 1, 1, 0, 0, 1, 0), (.goto 4, 3, 17, 0, 0, 0)]
def zb_10_16 : List zN := [(.iconst 0, 1, 0, 0, 0, 0)]
def zb_10_17 : List zN := [(.ireturn, 1, 0, 0, 0, 0)]
def zc_10 (pc : Nat) : List zN := if pc = 0 then zb_10_0 else if pc = 16 then zb_10_16 else if pc = 17 then zb_10_17 else []
def zb_11_0 : List zN := [(.aload_n 0, 1, 0, 0, 0, 0), (.iload_n 1, 1, 0, 0, 0, 0), (.invokevirtual 75, 3, 12, 1, 0, 0), (.ifCond .eq 47, 3, 52, 0, 0, 0), (.aload_n 0, 1, 0, 0, 0, 0), (.iload_n 2, 1, 0, 0, 0, 0), (.invokevirtual 75, 3, 12, 1, 0, 0), (.ifCond .eq 39, 3, 52, 0, 0, 0), (.aload_n 0, 1, 0, 0, 0, 0), (.iload_n 3, 1, 0, 0, 0, 0), (.invokevirtual 75, 3, 12, 1, 0, 0), (.ifCond .eq 31, 3, 52, 0, 0, 0), (.iload_n 1, 1, 0, 0, 0, 0), (.iload_n 2, 1, 0, 0, 0, 0), (.invokestatic 79, 3, 13, 2, 0, 0), (.ifCond .ne 23, 3, 52, 0, 0, 0), (.iload_n 1, 1, 0, 0, 0, 0), (.iload_n 3, 1, 0, 0, 0, 0), (.invokestatic 79, 3, 13, 2, 0, 0), (.ifCond .ne 15, 3, 52, 0, 0, 0), (.iload_n 2, 1, 0, 0, 0, 0), (.iload_n 3, 1, 0, 0, 0, 0), (.invokestatic 79, 3, 13, 2, 0, 0), (.ifCond .ne 7, 3, 52, 0, 0, 0), (.iconst 1, 1, 0, 0, 1, 0), (.goto 4, 3, 53, 0, 0, 0)]
def zb_11_52 : List zN := [(.iconst 0, 1, 0, 0, 0, 0)]
def zb_11_53 : List zN := [(.ireturn, 1, 0, 0, 0, 0)]
def zc_11 (pc : Nat) : List zN := if pc = 0 then zb_11_0 else if pc = 52 then zb_11_52 else if pc = 53 then zb_11_53 else []
def zb_12_0 : List zN := [(.iload_n 1, 1, 0, 0, 0, 0), (.iconst (-1), 1, 0, 0, (-1), 0), (.if_icmp .eq 11, 3, 13, 0, 0, 0), (.aload_n 0, 1, 0, 0, 0, 0), (.iload_n 1, 1, 0, 0, 0, 0), (.invokevirtual 83, 3, 10, 1, 0, 0), (.ifCond .eq 7, 3, 17, 0, 0, 0)]
def zb_12_13 : List zN := [(.iconst 1, 1, 0, 0, 1, 0), (.goto 4, 3, 18, 0, 0, 0)]
def zb_12_17 : List zN := [(.iconst 0, 1, 0, 0, 0, 0)]
def zb_12_18 : List zN := [(.ireturn, 1, 0, 0, 0, 0)]
def zc_12 (pc : Nat) : List zN := if pc = 0 then zb_12_0 else if pc = 13 then zb_12_13 else if pc = 17 then zb_12_17 else if pc = 18 then zb_12_18 else []
def zb_13_0 : List zN := [(.iload_n 0, 1, 0, 0, 0, 0), (.iload_n 1, 1, 0, 0, 0, 0), (.if_icmp .ne 12, 3, 14, 0, 0, 0), (.iload_n 0, 1, 0, 0, 0, 0), (.iconst (-1), 1, 0, 0, (-1), 0), (.if_icmp .eq 7, 3, 14, 0, 0, 0), (.iconst 1, 1, 0, 0, 1, 0), (.goto 4, 3, 15, 0, 0, 0)]
def zb_13_14 : List zN := [(.iconst 0, 1, 0, 0, 0, 0)]
def zb_13_15 : List zN := [(.ireturn, 1, 0, 0, 0, 0)]
def zc_13 (pc : Nat) : List zN := if pc = 0 then zb_13_0 else if pc = 14 then zb_13_14 else if pc = 15 then zb_13_15 else []
def zb_14_0 : List zN := [(.aload_n 0, 1, 0, 0, 0, 0), (.getfield 56, 3, 0, 4, 0, 0), (.istore 4, 2, 0, 0, 0, 0), (.aload_n 0, 1, 0, 0, 0, 0), (.getfield 26, 3, 0, 7, 0, 0), (.iload 4, 2, 0, 0, 0, 0), (.aaload, 1, 0, 0, 0, 0), (.iload_n 1, 1, 0, 0, 0, 0), (.iload_n 2, 1, 0, 0, 0, 0), (.iload_n 3, 1, 0, 0, 0, 0), (.invokevirtual 90, 3, 65, 3, 0, 0), (.aload_n 0, 1, 0, 0, 0, 0), (.dup, 1, 0, 0, 0, 0), (.getfield 56, 3, 0, 4, 0, 0), (.iconst 1, 1, 0, 0, 1, 0), (.iadd, 1, 0, 0, 0, 0), (.putfield 56, 3, 0, 4, 0, 0), (.iload 4, 2, 0, 0, 0, 0), (.ireturn, 1, 0, 0, 0, 0)]
def zc_14 (pc : Nat) : List zN := if pc = 0 then zb_14_0 else []
def zb_15_0 : List zN := [(.iload_n 1, 1, 0, 0, 0, 0), (.ifCond .lt 15, 3, 16, 0, 0, 0), (.iload_n 1, 1, 0, 0, 0, 0), (.aload_n 0, 1, 0, 0, 0, 0), (.getfield 56, 3, 0, 4, 0, 0), (.if_icmp .ge 7, 3, 16, 0, 0, 0), (.iconst 1, 1, 0, 0, 1, 0), (.goto 4, 3, 17, 0, 0, 0)]
def zb_15_16 : List zN := [(.iconst 0, 1, 0, 0, 0, 0)]
def zb_15_17 : List zN := [(.ireturn, 1, 0, 0, 0, 0)]
def zc_15 (pc : Nat) : List zN := if pc = 0 then zb_15_0 else if pc = 16 then zb_15_16 else if pc = 17 then zb_15_17 else []
def zb_16_0 : List zN := [(.aload_n 0, 1, 0, 0, 0, 0), (.getfield 32, 3, 0, 8, 0, 0), (.iload_n 1, 1, 0, 0, 0, 0), (.aaload, 1, 0, 0, 0, 0), (.iload_n 2, 1, 0, 0, 0, 0), (.iload_n 3, 1, 0, 0, 0, 0), (.invokevirtual 176, 3, 51, 2, 0, 0), (.iconst 0, 1, 0, 0, 0, 0), (.istore 4, 2, 0, 0, 0, 0)]
def zb_16_14 : List zN := [(.iload 4, 2, 0, 0, 0, 0), (.aload_n 0, 1, 0, 0, 0, 0), (.getfield 59, 3, 0, 5, 0, 0), (.if_icmp .ge 39, 3, 59, 0, 0, 0), (.aload_n 0, 1, 0, 0, 0, 0), (.getfield 38, 3, 0, 9, 0, 0), (.iload 4, 2, 0, 0, 0, 0), (.aaload, 1, 0, 0, 0, 0), (.getfield 93, 3, 3, 0, 0, 0), (.iconst 1, 1, 0, 0, 1, 0), (.if_icmp .ne 19, 3, 53, 0, 0, 0), (.aload_n 0, 1, 0, 0, 0, 0), (.aload_n 0, 1, 0, 0, 0, 0), (.getfield 38, 3, 0, 9, 0, 0), (.iload 4, 2, 0, 0, 0, 0), (.aaload, 1, 0, 0, 0, 0), (.invokevirtual 180, 3, 17, 1, 0, 0), (.ifCond .ne 5, 3, 53, 0, 0, 0), (.iconst 0, 1, 0, 0, 0, 0), (.ireturn, 1, 0, 0, 0, 0)]
def zb_16_53 : List zN := [(.iinc 4 1, 3, 0, 0, 1, 0), (.goto (-42), 3, 14, 0, 0, 0)]
def zb_16_59 : List zN := [(.iconst 1, 1, 0, 0, 1, 0), (.ireturn, 1, 0, 0, 0, 0)]
def zc_16 (pc : Nat) : List zN := if pc = 0 then zb_16_0 else if pc = 14 then zb_16_14 else if pc = 53 then zb_16_53 else if pc = 59 then zb_16_59 else []
def zb_17_0 : List zN := [(.aload_n 0, 1, 0, 0, 0, 0), (.aload_n 1, 1, 0, 0, 0, 0), (.invokevirtual 159, 3, 7, 1, 0, 0), (.aload_n 1, 1, 0, 0, 0, 0), (.invokevirtual 162, 3, 61, 0, 0, 0), (.isub, 1, 0, 0, 0, 0), (.istore_n 2, 1, 0, 0, 0, 0), (.iload_n 2, 1, 0, 0, 0, 0), (.aload_n 0, 1, 0, 0, 0, 0), (.aload_n 0, 1, 0, 0, 0, 0), (.getfield 26, 3, 0, 7, 0, 0), (.aload_n 1, 1, 0, 0, 0, 0), (.getfield 143, 3, 3, 1, 0, 0), (.aaload, 1, 0, 0, 0, 0), (.invokevirtual 165, 3, 8, 1, 0, 0), (.if_icmp .le 5, 3, 30, 0, 0, 0), (.iconst 0, 1, 0, 0, 0, 0), (.ireturn, 1, 0, 0, 0, 0)]
def zb_17_30 : List zN := [(.iload_n 2, 1, 0, 0, 0, 0), (.ifCond .le 12, 3, 43, 0, 0, 0), (.aload_n 0, 1, 0, 0, 0, 0), (.aload_n 1, 1, 0, 0, 0, 0), (.iload_n 2, 1, 0, 0, 0, 0), (.invokevirtual 169, 3, 9, 2, 0, 0), (.goto 10, 3, 50, 0, 0, 0)]
def zb_17_43 : List zN := [(.aload_n 0, 1, 0, 0, 0, 0), (.aload_n 1, 1, 0, 0, 0, 0), (.iload_n 2, 1, 0, 0, 0, 0), (.ineg, 1, 0, 0, 0, 0), (.invokevirtual 173, 3, 18, 2, 0, 0)]
def zb_17_50 : List zN := [(.iconst 1, 1, 0, 0, 1, 0), (.ireturn, 1, 0, 0, 0, 0)]
def zc_17 (pc : Nat) : List zN := if pc = 0 then zb_17_0 else if pc = 30 then zb_17_30 else if pc = 43 then zb_17_43 else if pc = 50 then zb_17_50 else []
def zb_18_0 : List zN := [(.aload_n 0, 1, 0, 0, 0, 0), (.getfield 26, 3, 0, 7, 0, 0), (.aload_n 1, 1, 0, 0, 0, 0), (.getfield 143, 3, 3, 1, 0, 0), (.aaload, 1, 0, 0, 0, 0), (.astore_n 3, 1, 0, 0, 0, 0), (.iload_n 2, 1, 0, 0, 0, 0), (.istore 4, 2, 0, 0, 0, 0), (.iconst 3, 1, 0, 0, 3, 0), (.istore 5, 2, 0, 0, 0, 0)]
def zb_18_16 : List zN := [(.iload 5, 2, 0, 0, 0, 0), (.ifCond .lt 74, 3, 92, 0, 0, 0), (.iload 4, 2, 0, 0, 0, 0), (.aload_n 1, 1, 0, 0, 0, 0), (.getfield 146, 3, 3, 15, 0, 0), (.aload_n 3, 1, 0, 0, 0, 0), (.getfield 108, 3, 4, 1, 0, 0), (.iload 5, 2, 0, 0, 0, 0), (.iaload, 1, 0, 0, 0, 0), (.iaload, 1, 0, 0, 0, 0), (.invokestatic 134, 3, 227, 2, 0, 0), (.istore 6, 2, 0, 0, 0, 0), (.aload_n 0, 1, 0, 0, 0, 0), (.getfield 20, 3, 0, 6, 0, 0), (.aload_n 3, 1, 0, 0, 0, 0), (.getfield 108, 3, 4, 1, 0, 0), (.iload 5, 2, 0, 0, 0, 0), (.iaload, 1, 0, 0, 0, 0), (.aaload, 1, 0, 0, 0, 0), (.dup, 1, 0, 0, 0, 0), (.getfield 96, 3, 1, 1, 0, 0), (.iload 6, 2, 0, 0, 0, 0), (.isub, 1, 0, 0, 0, 0), (.putfield 96, 3, 1, 1, 0, 0), (.aload_n 1, 1, 0, 0, 0, 0), (.getfield 146, 3, 3, 15, 0, 0), (.aload_n 3, 1, 0, 0, 0, 0), (.getfield 108, 3, 4, 1, 0, 0), (.iload 5, 2, 0, 0, 0, 0), (.iaload, 1, 0, 0, 0, 0), (.dup2, 1, 0, 0, 0, 0), (.iaload, 1, 0, 0, 0, 0), (.iload 6, 2, 0, 0, 0, 0), (.isub, 1, 0, 0, 0, 0), (.iastore, 1, 0, 0, 0, 0), (.iload 4, 2, 0, 0, 0, 0), (.iload 6, 2, 0, 0, 0, 0), (.isub, 1, 0, 0, 0, 0), (.istore 4, 2, 0, 0, 0, 0), (.iinc 5 (-1), 3, 0, 0, (-1), 0), (.goto (-73), 3, 16, 0, 0, 0)]
def zb_18_92 : List zN := [(.aload_n 1, 1, 0, 0, 0, 0), (.dup, 1, 0, 0, 0, 0), (.getfield 153, 3, 3, 14, 0, 0), (.iload_n 2, 1, 0, 0, 0, 0), (.iload 4, 2, 0, 0, 0, 0), (.isub, 1, 0, 0, 0, 0), (.i2l, 1, 0, 0, 0, 0), (.ladd, 1, 0, 0, 0, 0), (.putfield 153, 3, 3, 14, 0, 0), (.return_, 1, 0, 0, 0, 0)]
def zc_18 (pc : Nat) : List zN := if pc = 0 then zb_18_0 else if pc = 16 then zb_18_16 else if pc = 92 then zb_18_92 else []
def zb_19_0 : List zN := [(.iload_n 1, 1, 0, 0, 0, 0), (.ifCond .lt 15, 3, 16, 0, 0, 0), (.iload_n 1, 1, 0, 0, 0, 0), (.aload_n 0, 1, 0, 0, 0, 0), (.getfield 59, 3, 0, 5, 0, 0), (.if_icmp .ge 7, 3, 16, 0, 0, 0), (.iconst 1, 1, 0, 0, 1, 0), (.goto 4, 3, 17, 0, 0, 0)]
def zb_19_16 : List zN := [(.iconst 0, 1, 0, 0, 0, 0)]
def zb_19_17 : List zN := [(.ireturn, 1, 0, 0, 0, 0)]
def zc_19 (pc : Nat) : List zN := if pc = 0 then zb_19_0 else if pc = 16 then zb_19_16 else if pc = 17 then zb_19_17 else []
def zb_20_0 : List zN := [(.iconst 0, 1, 0, 0, 0, 0), (.istore_n 2, 1, 0, 0, 0, 0), (.iconst 0, 1, 0, 0, 0, 0), (.istore_n 3, 1, 0, 0, 0, 0)]
def zb_20_4 : List zN := [(.iload_n 3, 1, 0, 0, 0, 0), (.aload_n 0, 1, 0, 0, 0, 0), (.getfield 59, 3, 0, 5, 0, 0), (.if_icmp .ge 25, 3, 34, 0, 0, 0), (.aload_n 0, 1, 0, 0, 0, 0), (.getfield 38, 3, 0, 9, 0, 0), (.iload_n 3, 1, 0, 0, 0, 0), (.aaload, 1, 0, 0, 0, 0), (.getfield 93, 3, 3, 0, 0, 0), (.iload_n 1, 1, 0, 0, 0, 0), (.if_icmp .ne 6, 3, 28, 0, 0, 0), (.iinc 2 1, 3, 0, 0, 1, 0)]
def zb_20_28 : List zN := [(.iinc 3 1, 3, 0, 0, 1, 0), (.goto (-27), 3, 4, 0, 0, 0)]
def zb_20_34 : List zN := [(.iload_n 2, 1, 0, 0, 0, 0), (.ireturn, 1, 0, 0, 0, 0)]
def zc_20 (pc : Nat) : List zN := if pc = 0 then zb_20_0 else if pc = 4 then zb_20_4 else if pc = 28 then zb_20_28 else if pc = 34 then zb_20_34 else []
def zb_21_0 : List zN := [(.iload_n 2, 1, 0, 0, 0, 0), (.aload_n 1, 1, 0, 0, 0, 0), (.getfield 128, 3, 3, 7, 0, 0), (.if_icmp .lt 16, 3, 21, 0, 0, 0), (.iload_n 2, 1, 0, 0, 0, 0), (.aload_n 0, 1, 0, 0, 0, 0), (.aload_n 1, 1, 0, 0, 0, 0), (.invokevirtual 139, 3, 22, 1, 0, 0), (.if_icmp .gt 7, 3, 21, 0, 0, 0), (.iconst 1, 1, 0, 0, 1, 0), (.goto 4, 3, 22, 0, 0, 0)]
def zb_21_21 : List zN := [(.iconst 0, 1, 0, 0, 0, 0)]
def zb_21_22 : List zN := [(.ireturn, 1, 0, 0, 0, 0)]
def zc_21 (pc : Nat) : List zN := if pc = 0 then zb_21_0 else if pc = 21 then zb_21_21 else if pc = 22 then zb_21_22 else []
def zb_22_0 : List zN := [(.aload_n 0, 1, 0, 0, 0, 0), (.getfield 50, 3, 0, 0, 0, 0), (.aload_n 1, 1, 0, 0, 0, 0), (.invokevirtual 131, 3, 60, 0, 0, 0), (.invokestatic 134, 3, 227, 2, 0, 0), (.ireturn, 1, 0, 0, 0, 0)]
def zc_22 (pc : Nat) : List zN := if pc = 0 then zb_22_0 else []
def zb_23_0 : List zN := [(.aload_n 0, 1, 0, 0, 0, 0), (.getfield 26, 3, 0, 7, 0, 0), (.aload_n 1, 1, 0, 0, 0, 0), (.getfield 204, 3, 3, 2, 0, 0), (.aaload, 1, 0, 0, 0, 0), (.getfield 102, 3, 4, 0, 0, 0), (.aload_n 1, 1, 0, 0, 0, 0), (.getfield 118, 3, 3, 3, 0, 0), (.dup2, 1, 0, 0, 0, 0), (.iaload, 1, 0, 0, 0, 0), (.iload_n 2, 1, 0, 0, 0, 0), (.iadd, 1, 0, 0, 0, 0), (.iastore, 1, 0, 0, 0, 0), (.aload_n 1, 1, 0, 0, 0, 0), (.dup, 1, 0, 0, 0, 0), (.getfield 207, 3, 3, 8, 0, 0), (.iload_n 2, 1, 0, 0, 0, 0), (.iadd, 1, 0, 0, 0, 0), (.putfield 207, 3, 3, 8, 0, 0), (.aload_n 0, 1, 0, 0, 0, 0), (.aload_n 1, 1, 0, 0, 0, 0), (.aload_n 1, 1, 0, 0, 0, 0), (.invokevirtual 162, 3, 61, 0, 0, 0), (.aload_n 0, 1, 0, 0, 0, 0), (.aload_n 1, 1, 0, 0, 0, 0), (.invokevirtual 159, 3, 7, 1, 0, 0), (.isub, 1, 0, 0, 0, 0), (.invokevirtual 173, 3, 18, 2, 0, 0), (.return_, 1, 0, 0, 0, 0)]
def zc_23 (pc : Nat) : List zN := if pc = 0 then zb_23_0 else []
def zb_24_0 : List zN := [(.aload_n 1, 1, 0, 0, 0, 0), (.aload_n 1, 1, 0, 0, 0, 0), (.invokevirtual 115, 3, 59, 0, 0, 0), (.putfield 210, 3, 3, 10, 0, 0), (.aload_n 1, 1, 0, 0, 0, 0), (.aload_n 0, 1, 0, 0, 0, 0), (.aload_n 1, 1, 0, 0, 0, 0), (.aload_n 1, 1, 0, 0, 0, 0), (.getfield 210, 3, 3, 10, 0, 0), (.invokevirtual 213, 3, 25, 2, 0, 0), (.putfield 217, 3, 3, 11, 0, 0), (.aload_n 1, 1, 0, 0, 0, 0), (.aload_n 0, 1, 0, 0, 0, 0), (.aload_n 1, 1, 0, 0, 0, 0), (.aload_n 1, 1, 0, 0, 0, 0), (.getfield 210, 3, 3, 10, 0, 0), (.aload_n 1, 1, 0, 0, 0, 0), (.getfield 217, 3, 3, 11, 0, 0), (.isub, 1, 0, 0, 0, 0), (.iload_n 3, 1, 0, 0, 0, 0), (.invokevirtual 220, 3, 26, 3, 0, 0), (.putfield 224, 3, 3, 9, 0, 0), (.aload_n 0, 1, 0, 0, 0, 0), (.aload_n 1, 1, 0, 0, 0, 0), (.aload_n 1, 1, 0, 0, 0, 0), (.getfield 224, 3, 3, 9, 0, 0), (.invokevirtual 227, 3, 27, 2, 0, 0), (.aload_n 0, 1, 0, 0, 0, 0), (.aload_n 1, 1, 0, 0, 0, 0), (.aload_n 1, 1, 0, 0, 0, 0), (.invokevirtual 162, 3, 61, 0, 0, 0), (.invokevirtual 173, 3, 18, 2, 0, 0), (.aload_n 1, 1, 0, 0, 0, 0), (.iload_n 2, 1, 0, 0, 0, 0), (.putfield 93, 3, 3, 0, 0, 0), (.return_, 1, 0, 0, 0, 0)]
def zc_24 (pc : Nat) : List zN := if pc = 0 then zb_24_0 else []
def zb_25_0 : List zN := [(.aload_n 0, 1, 0, 0, 0, 0), (.aload_n 1, 1, 0, 0, 0, 0), (.invokevirtual 139, 3, 22, 1, 0, 0), (.aload_n 1, 1, 0, 0, 0, 0), (.getfield 128, 3, 3, 7, 0, 0), (.isub, 1, 0, 0, 0, 0), (.istore_n 3, 1, 0, 0, 0, 0), (.iload_n 2, 1, 0, 0, 0, 0), (.aload_n 0, 1, 0, 0, 0, 0), (.getfield 32, 3, 0, 8, 0, 0), (.aload_n 1, 1, 0, 0, 0, 0), (.getfield 118, 3, 3, 3, 0, 0), (.aaload, 1, 0, 0, 0, 0), (.aload_n 1, 1, 0, 0, 0, 0), (.getfield 230, 3, 3, 4, 0, 0), (.iload_n 3, 1, 0, 0, 0, 0), (.invokevirtual 233, 3, 55, 2, 0, 0), (.invokestatic 134, 3, 227, 2, 0, 0), (.ireturn, 1, 0, 0, 0, 0)]
def zc_25 (pc : Nat) : List zN := if pc = 0 then zb_25_0 else []
def zb_26_0 : List zN := [(.iload_n 2, 1, 0, 0, 0, 0), (.aload_n 0, 1, 0, 0, 0, 0), (.getfield 32, 3, 0, 8, 0, 0), (.aload_n 1, 1, 0, 0, 0, 0), (.getfield 118, 3, 3, 3, 0, 0), (.aaload, 1, 0, 0, 0, 0), (.iload_n 3, 1, 0, 0, 0, 0), (.invokevirtual 236, 3, 54, 1, 0, 0), (.imul, 1, 0, 0, 0, 0), (.ireturn, 1, 0, 0, 0, 0)]
def zc_26 (pc : Nat) : List zN := if pc = 0 then zb_26_0 else []
def zb_27_0 : List zN := [(.aload_n 0, 1, 0, 0, 0, 0), (.getfield 26, 3, 0, 7, 0, 0), (.aload_n 1, 1, 0, 0, 0, 0), (.getfield 143, 3, 3, 1, 0, 0), (.aaload, 1, 0, 0, 0, 0), (.astore_n 3, 1, 0, 0, 0, 0), (.iload_n 2, 1, 0, 0, 0, 0), (.istore 4, 2, 0, 0, 0, 0), (.iconst 0, 1, 0, 0, 0, 0), (.istore 5, 2, 0, 0, 0, 0)]
def zb_27_16 : List zN := [(.iload 5, 2, 0, 0, 0, 0), (.iconst 4, 1, 0, 0, 4, 0), (.if_icmp .ge 85, 3, 104, 0, 0, 0), (.aload_n 0, 1, 0, 0, 0, 0), (.getfield 20, 3, 0, 6, 0, 0), (.aload_n 3, 1, 0, 0, 0, 0), (.getfield 108, 3, 4, 1, 0, 0), (.iload 5, 2, 0, 0, 0, 0), (.iaload, 1, 0, 0, 0, 0), (.aaload, 1, 0, 0, 0, 0), (.astore 6, 2, 0, 0, 0, 0), (.iload 4, 2, 0, 0, 0, 0), (.aload_n 1, 1, 0, 0, 0, 0), (.getfield 146, 3, 3, 15, 0, 0), (.aload_n 3, 1, 0, 0, 0, 0), (.getfield 108, 3, 4, 1, 0, 0), (.iload 5, 2, 0, 0, 0, 0), (.iaload, 1, 0, 0, 0, 0), (.iaload, 1, 0, 0, 0, 0), (.invokestatic 134, 3, 227, 2, 0, 0), (.istore 7, 2, 0, 0, 0, 0), (.aload 6, 2, 0, 0, 0, 0), (.dup, 1, 0, 0, 0, 0), (.getfield 96, 3, 1, 1, 0, 0), (.iload 7, 2, 0, 0, 0, 0), (.isub, 1, 0, 0, 0, 0), (.putfield 96, 3, 1, 1, 0, 0), (.aload_n 1, 1, 0, 0, 0, 0), (.getfield 146, 3, 3, 15, 0, 0), (.aload_n 3, 1, 0, 0, 0, 0), (.getfield 108, 3, 4, 1, 0, 0), (.iload 5, 2, 0, 0, 0, 0), (.iaload, 1, 0, 0, 0, 0), (.dup2, 1, 0, 0, 0, 0), (.iaload, 1, 0, 0, 0, 0), (.iload 7, 2, 0, 0, 0, 0), (.isub, 1, 0, 0, 0, 0), (.iastore, 1, 0, 0, 0, 0), (.aload 6, 2, 0, 0, 0, 0), (.iload 7, 2, 0, 0, 0, 0), (.invokevirtual 156, 3, 48, 1, 0, 0), (.iload 4, 2, 0, 0, 0, 0), (.iload 7, 2, 0, 0, 0, 0), (.isub, 1, 0, 0, 0, 0), (.istore 4, 2, 0, 0, 0, 0), (.iinc 5 1, 3, 0, 0, 1, 0), (.goto (-85), 3, 16, 0, 0, 0)]
def zb_27_104 : List zN := [(.return_, 1, 0, 0, 0, 0)]
def zc_27 (pc : Nat) : List zN := if pc = 0 then zb_27_0 else if pc = 16 then zb_27_16 else if pc = 104 then zb_27_104 else []
def zb_28_0 : List zN := [(.iconst 0, 1, 0, 0, 0, 0), (.istore_n 3, 1, 0, 0, 0, 0), (.iconst 0, 1, 0, 0, 0, 0), (.istore 4, 2, 0, 0, 0, 0)]
def zb_28_5 : List zN := [(.iload 4, 2, 0, 0, 0, 0), (.aload_n 0, 1, 0, 0, 0, 0), (.getfield 59, 3, 0, 5, 0, 0), (.if_icmp .ge 38, 3, 49, 0, 0, 0), (.aload_n 0, 1, 0, 0, 0, 0), (.aload_n 0, 1, 0, 0, 0, 0), (.getfield 38, 3, 0, 9, 0, 0), (.iload 4, 2, 0, 0, 0, 0), (.aaload, 1, 0, 0, 0, 0), (.iload_n 1, 1, 0, 0, 0, 0), (.iload_n 2, 1, 0, 0, 0, 0), (.invokevirtual 239, 3, 29, 3, 0, 0), (.ifCond .eq 16, 3, 43, 0, 0, 0), (.iload_n 3, 1, 0, 0, 0, 0), (.aload_n 0, 1, 0, 0, 0, 0), (.getfield 38, 3, 0, 9, 0, 0), (.iload 4, 2, 0, 0, 0, 0), (.aaload, 1, 0, 0, 0, 0), (.invokevirtual 115, 3, 59, 0, 0, 0), (.iadd, 1, 0, 0, 0, 0), (.istore_n 3, 1, 0, 0, 0, 0)]
def zb_28_43 : List zN := [(.iinc 4 1, 3, 0, 0, 1, 0), (.goto (-41), 3, 5, 0, 0, 0)]
def zb_28_49 : List zN := [(.iload_n 3, 1, 0, 0, 0, 0), (.ireturn, 1, 0, 0, 0, 0)]
def zc_28 (pc : Nat) : List zN := if pc = 0 then zb_28_0 else if pc = 5 then zb_28_5 else if pc = 43 then zb_28_43 else if pc = 49 then zb_28_49 else []
def zb_29_0 : List zN := [(.aload_n 1, 1, 0, 0, 0, 0), (.getfield 93, 3, 3, 0, 0, 0), (.iconst 1, 1, 0, 0, 1, 0), (.if_icmp .ne 23, 3, 28, 0, 0, 0), (.aload_n 1, 1, 0, 0, 0, 0), (.getfield 204, 3, 3, 2, 0, 0), (.iload_n 2, 1, 0, 0, 0, 0), (.if_icmp .ne 15, 3, 28, 0, 0, 0), (.aload_n 1, 1, 0, 0, 0, 0), (.getfield 118, 3, 3, 3, 0, 0), (.iload_n 3, 1, 0, 0, 0, 0), (.if_icmp .ne 7, 3, 28, 0, 0, 0), (.iconst 1, 1, 0, 0, 1, 0), (.goto 4, 3, 29, 0, 0, 0)]
def zb_29_28 : List zN := [(.iconst 0, 1, 0, 0, 0, 0)]
def zb_29_29 : List zN := [(.ireturn, 1, 0, 0, 0, 0)]
def zc_29 (pc : Nat) : List zN := if pc = 0 then zb_29_0 else if pc = 28 then zb_29_28 else if pc = 29 then zb_29_29 else []
def zb_30_0 : List zN := [(.aload_n 0, 1, 0, 0, 0, 0), (.iload_n 1, 1, 0, 0, 0, 0), (.iload_n 2, 1, 0, 0, 0, 0), (.invokevirtual 243, 3, 31, 2, 0, 0), (.istore 4, 2, 0, 0, 0, 0), (.iload_n 3, 1, 0, 0, 0, 0), (.istore 5, 2, 0, 0, 0, 0), (.iconst 0, 1, 0, 0, 0, 0), (.istore 6, 2, 0, 0, 0, 0), (.iconst 0, 1, 0, 0, 0, 0), (.istore 7, 2, 0, 0, 0, 0)]
def zb_30_17 : List zN := [(.iload 7, 2, 0, 0, 0, 0), (.iload 4, 2, 0, 0, 0, 0), (.if_icmp .ge 77, 3, 98, 0, 0, 0), (.iload 5, 2, 0, 0, 0, 0), (.ifCond .le 72, 3, 98, 0, 0, 0), (.aload_n 0, 1, 0, 0, 0, 0), (.getfield 38, 3, 0, 9, 0, 0), (.aload_n 0, 1, 0, 0, 0, 0), (.iload 7, 2, 0, 0, 0, 0), (.invokevirtual 187, 3, 6, 1, 0, 0), (.aaload, 1, 0, 0, 0, 0), (.astore 8, 2, 0, 0, 0, 0), (.iload 5, 2, 0, 0, 0, 0), (.aload 8, 2, 0, 0, 0, 0), (.invokevirtual 115, 3, 59, 0, 0, 0), (.invokestatic 134, 3, 227, 2, 0, 0), (.istore 9, 2, 0, 0, 0, 0), (.aload_n 0, 1, 0, 0, 0, 0), (.aload 8, 2, 0, 0, 0, 0), (.iload 9, 2, 0, 0, 0, 0), (.invokevirtual 246, 3, 23, 2, 0, 0), (.aload 8, 2, 0, 0, 0, 0), (.invokevirtual 115, 3, 59, 0, 0, 0), (.ifCond .ne 15, 3, 82, 0, 0, 0), (.aload_n 0, 1, 0, 0, 0, 0), (.aload 8, 2, 0, 0, 0, 0), (.iconst 2, 1, 0, 0, 2, 0), (.aload 8, 2, 0, 0, 0, 0), (.getfield 128, 3, 3, 7, 0, 0), (.invokevirtual 197, 3, 24, 3, 0, 0)]
def zb_30_82 : List zN := [(.iload 5, 2, 0, 0, 0, 0), (.iload 9, 2, 0, 0, 0, 0), (.isub, 1, 0, 0, 0, 0), (.istore 5, 2, 0, 0, 0, 0), (.iinc 6 1, 3, 0, 0, 1, 0), (.iinc 7 1, 3, 0, 0, 1, 0), (.goto (-78), 3, 17, 0, 0, 0)]
def zb_30_98 : List zN := [(.iload 6, 2, 0, 0, 0, 0), (.ireturn, 1, 0, 0, 0, 0)]
def zc_30 (pc : Nat) : List zN := if pc = 0 then zb_30_0 else if pc = 17 then zb_30_17 else if pc = 82 then zb_30_82 else if pc = 98 then zb_30_98 else []
def zb_31_0 : List zN := [(.aload_n 0, 1, 0, 0, 0, 0), (.iconst 0, 1, 0, 0, 0, 0), (.putfield 263, 3, 0, 11, 0, 0), (.iconst 0, 1, 0, 0, 0, 0), (.istore_n 3, 1, 0, 0, 0, 0)]
def zb_31_7 : List zN := [(.iload_n 3, 1, 0, 0, 0, 0), (.aload_n 0, 1, 0, 0, 0, 0), (.getfield 59, 3, 0, 5, 0, 0), (.if_icmp .ge 38, 3, 50, 0, 0, 0), (.aload_n 0, 1, 0, 0, 0, 0), (.aload_n 0, 1, 0, 0, 0, 0), (.getfield 38, 3, 0, 9, 0, 0), (.iload_n 3, 1, 0, 0, 0, 0), (.aaload, 1, 0, 0, 0, 0), (.iload_n 1, 1, 0, 0, 0, 0), (.iload_n 2, 1, 0, 0, 0, 0), (.invokevirtual 239, 3, 29, 3, 0, 0), (.ifCond .eq 17, 3, 44, 0, 0, 0), (.aload_n 0, 1, 0, 0, 0, 0), (.aload_n 0, 1, 0, 0, 0, 0), (.getfield 38, 3, 0, 9, 0, 0), (.iload_n 3, 1, 0, 0, 0, 0), (.aaload, 1, 0, 0, 0, 0), (.invokevirtual 131, 3, 60, 0, 0, 0), (.iload_n 3, 1, 0, 0, 0, 0), (.invokevirtual 266, 3, 5, 2, 0, 0)]
def zb_31_44 : List zN := [(.iinc 3 1, 3, 0, 0, 1, 0), (.goto (-40), 3, 7, 0, 0, 0)]
def zb_31_50 : List zN := [(.aload_n 0, 1, 0, 0, 0, 0), (.getfield 263, 3, 0, 11, 0, 0), (.ireturn, 1, 0, 0, 0, 0)]
def zc_31 (pc : Nat) : List zN := if pc = 0 then zb_31_0 else if pc = 7 then zb_31_7 else if pc = 44 then zb_31_44 else if pc = 50 then zb_31_50 else []
def zb_32_0 : List zN := [(.aload_n 0, 1, 0, 0, 0, 0), (.getfield 59, 3, 0, 5, 0, 0), (.istore 4, 2, 0, 0, 0, 0), (.aload_n 0, 1, 0, 0, 0, 0), (.getfield 38, 3, 0, 9, 0, 0), (.iload_n 1, 1, 0, 0, 0, 0), (.aaload, 1, 0, 0, 0, 0), (.astore 5, 2, 0, 0, 0, 0), (.aload_n 0, 1, 0, 0, 0, 0), (.getfield 38, 3, 0, 9, 0, 0), (.iload 4, 2, 0, 0, 0, 0), (.aaload, 1, 0, 0, 0, 0), (.astore 6, 2, 0, 0, 0, 0), (.aload 6, 2, 0, 0, 0, 0), (.aload 5, 2, 0, 0, 0, 0), (.getfield 143, 3, 3, 1, 0, 0), (.iload_n 3, 1, 0, 0, 0, 0), (.aload 5, 2, 0, 0, 0, 0), (.getfield 118, 3, 3, 3, 0, 0), (.iload_n 2, 1, 0, 0, 0, 0), (.invokevirtual 249, 3, 62, 4, 0, 0), (.aload 6, 2, 0, 0, 0, 0), (.iconst 1, 1, 0, 0, 1, 0), (.putfield 93, 3, 3, 0, 0, 0), (.aload 6, 2, 0, 0, 0, 0), (.aload 5, 2, 0, 0, 0, 0), (.getfield 121, 3, 3, 5, 0, 0), (.putfield 121, 3, 3, 5, 0, 0), (.aload 6, 2, 0, 0, 0, 0), (.aload 5, 2, 0, 0, 0, 0), (.getfield 253, 3, 3, 6, 0, 0), (.putfield 253, 3, 3, 6, 0, 0), (.aload 6, 2, 0, 0, 0, 0), (.aload 5, 2, 0, 0, 0, 0), (.getfield 128, 3, 3, 7, 0, 0), (.putfield 128, 3, 3, 7, 0, 0), (.aload 6, 2, 0, 0, 0, 0), (.iload_n 1, 1, 0, 0, 0, 0), (.putfield 256, 3, 3, 12, 0, 0), (.aload_n 0, 1, 0, 0, 0, 0), (.dup, 1, 0, 0, 0, 0), (.getfield 59, 3, 0, 5, 0, 0), (.iconst 1, 1, 0, 0, 1, 0), (.iadd, 1, 0, 0, 0, 0), (.putfield 59, 3, 0, 5, 0, 0), (.aload_n 0, 1, 0, 0, 0, 0), (.aload 5, 2, 0, 0, 0, 0), (.aload 6, 2, 0, 0, 0, 0), (.aload_n 0, 1, 0, 0, 0, 0), (.aload 6, 2, 0, 0, 0, 0), (.invokevirtual 159, 3, 7, 1, 0, 0), (.invokevirtual 259, 3, 33, 3, 0, 0), (.aload 5, 2, 0, 0, 0, 0), (.dup, 1, 0, 0, 0, 0), (.getfield 230, 3, 3, 4, 0, 0), (.iload_n 2, 1, 0, 0, 0, 0), (.isub, 1, 0, 0, 0, 0), (.putfield 230, 3, 3, 4, 0, 0), (.iload 4, 2, 0, 0, 0, 0), (.ireturn, 1, 0, 0, 0, 0)]
def zc_32 (pc : Nat) : List zN := if pc = 0 then zb_32_0 else []
def zb_33_0 : List zN := [(.aload_n 0, 1, 0, 0, 0, 0), (.getfield 26, 3, 0, 7, 0, 0), (.aload_n 1, 1, 0, 0, 0, 0), (.getfield 143, 3, 3, 1, 0, 0), (.aaload, 1, 0, 0, 0, 0), (.astore 4, 2, 0, 0, 0, 0), (.iload_n 3, 1, 0, 0, 0, 0), (.istore 5, 2, 0, 0, 0, 0), (.iconst 3, 1, 0, 0, 3, 0), (.istore 6, 2, 0, 0, 0, 0)]
def zb_33_17 : List zN := [(.iload 6, 2, 0, 0, 0, 0), (.ifCond .lt 64, 3, 83, 0, 0, 0), (.aload 4, 2, 0, 0, 0, 0), (.getfield 108, 3, 4, 1, 0, 0), (.iload 6, 2, 0, 0, 0, 0), (.iaload, 1, 0, 0, 0, 0), (.istore 7, 2, 0, 0, 0, 0), (.iload 5, 2, 0, 0, 0, 0), (.aload_n 1, 1, 0, 0, 0, 0), (.getfield 146, 3, 3, 15, 0, 0), (.iload 7, 2, 0, 0, 0, 0), (.iaload, 1, 0, 0, 0, 0), (.invokestatic 134, 3, 227, 2, 0, 0), (.istore 8, 2, 0, 0, 0, 0), (.aload_n 1, 1, 0, 0, 0, 0), (.getfield 146, 3, 3, 15, 0, 0), (.iload 7, 2, 0, 0, 0, 0), (.dup2, 1, 0, 0, 0, 0), (.iaload, 1, 0, 0, 0, 0), (.iload 8, 2, 0, 0, 0, 0), (.isub, 1, 0, 0, 0, 0), (.iastore, 1, 0, 0, 0, 0), (.aload_n 2, 1, 0, 0, 0, 0), (.getfield 146, 3, 3, 15, 0, 0), (.iload 7, 2, 0, 0, 0, 0), (.dup2, 1, 0, 0, 0, 0), (.iaload, 1, 0, 0, 0, 0), (.iload 8, 2, 0, 0, 0, 0), (.iadd, 1, 0, 0, 0, 0), (.iastore, 1, 0, 0, 0, 0), (.iload 5, 2, 0, 0, 0, 0), (.iload 8, 2, 0, 0, 0, 0), (.isub, 1, 0, 0, 0, 0), (.istore 5, 2, 0, 0, 0, 0), (.iinc 6 (-1), 3, 0, 0, (-1), 0), (.goto (-63), 3, 17, 0, 0, 0)]
def zb_33_83 : List zN := [(.aload_n 1, 1, 0, 0, 0, 0), (.dup, 1, 0, 0, 0, 0), (.getfield 153, 3, 3, 14, 0, 0), (.iload_n 3, 1, 0, 0, 0, 0), (.iload 5, 2, 0, 0, 0, 0), (.isub, 1, 0, 0, 0, 0), (.i2l, 1, 0, 0, 0, 0), (.ladd, 1, 0, 0, 0, 0), (.putfield 153, 3, 3, 14, 0, 0), (.aload_n 2, 1, 0, 0, 0, 0), (.dup, 1, 0, 0, 0, 0), (.getfield 149, 3, 3, 13, 0, 0), (.iload_n 3, 1, 0, 0, 0, 0), (.iload 5, 2, 0, 0, 0, 0), (.isub, 1, 0, 0, 0, 0), (.i2l, 1, 0, 0, 0, 0), (.ladd, 1, 0, 0, 0, 0), (.putfield 149, 3, 3, 13, 0, 0), (.return_, 1, 0, 0, 0, 0)]
def zc_33 (pc : Nat) : List zN := if pc = 0 then zb_33_0 else if pc = 17 then zb_33_17 else if pc = 83 then zb_33_83 else []
def zb_34_0 : List zN := [(.iload_n 2, 1, 0, 0, 0, 0), (.istore_n 3, 1, 0, 0, 0, 0), (.iconst 0, 1, 0, 0, 0, 0), (.istore 4, 2, 0, 0, 0, 0)]
def zb_34_5 : List zN := [(.iload 4, 2, 0, 0, 0, 0), (.aload_n 1, 1, 0, 0, 0, 0), (.getfield 105, 3, 4, 2, 0, 0), (.if_icmp .ge 46, 3, 57, 0, 0, 0), (.aload_n 0, 1, 0, 0, 0, 0), (.getfield 20, 3, 0, 6, 0, 0), (.aload_n 1, 1, 0, 0, 0, 0), (.getfield 108, 3, 4, 1, 0, 0), (.iload 4, 2, 0, 0, 0, 0), (.iaload, 1, 0, 0, 0, 0), (.aaload, 1, 0, 0, 0, 0), (.astore 5, 2, 0, 0, 0, 0), (.iload_n 3, 1, 0, 0, 0, 0), (.aload 5, 2, 0, 0, 0, 0), (.invokevirtual 111, 3, 47, 0, 0, 0), (.invokestatic 134, 3, 227, 2, 0, 0), (.istore 6, 2, 0, 0, 0, 0), (.aload 5, 2, 0, 0, 0, 0), (.iload 6, 2, 0, 0, 0, 0), (.invokevirtual 156, 3, 48, 1, 0, 0), (.iload_n 3, 1, 0, 0, 0, 0), (.iload 6, 2, 0, 0, 0, 0), (.isub, 1, 0, 0, 0, 0), (.istore_n 3, 1, 0, 0, 0, 0), (.iinc 4 1, 3, 0, 0, 1, 0), (.goto (-49), 3, 5, 0, 0, 0)]
def zb_34_57 : List zN := [(.return_, 1, 0, 0, 0, 0)]
def zc_34 (pc : Nat) : List zN := if pc = 0 then zb_34_0 else if pc = 5 then zb_34_5 else if pc = 57 then zb_34_57 else []
def zb_35_0 : List zN := [(.aload_n 1, 1, 0, 0, 0, 0), (.invokevirtual 131, 3, 60, 0, 0, 0), (.aload_n 0, 1, 0, 0, 0, 0), (.getfield 9, 3, 0, 1, 0, 0), (.iadd, 1, 0, 0, 0, 0), (.aload_n 0, 1, 0, 0, 0, 0), (.getfield 50, 3, 0, 0, 0, 0), (.if_icmp .ge 7, 3, 20, 0, 0, 0), (.iconst 1, 1, 0, 0, 1, 0), (.goto 4, 3, 21, 0, 0, 0)]
def zb_35_20 : List zN := [(.iconst 0, 1, 0, 0, 0, 0)]
def zb_35_21 : List zN := [(.ireturn, 1, 0, 0, 0, 0)]
def zc_35 (pc : Nat) : List zN := if pc = 0 then zb_35_0 else if pc = 20 then zb_35_20 else if pc = 21 then zb_35_21 else []
def zb_36_0 : List zN := [(.aload_n 1, 1, 0, 0, 0, 0), (.invokevirtual 115, 3, 59, 0, 0, 0), (.aload_n 0, 1, 0, 0, 0, 0), (.getfield 32, 3, 0, 8, 0, 0), (.aload_n 1, 1, 0, 0, 0, 0), (.getfield 118, 3, 3, 3, 0, 0), (.aaload, 1, 0, 0, 0, 0), (.aload_n 1, 1, 0, 0, 0, 0), (.getfield 128, 3, 3, 7, 0, 0), (.aload_n 1, 1, 0, 0, 0, 0), (.invokevirtual 131, 3, 60, 0, 0, 0), (.iload_n 2, 1, 0, 0, 0, 0), (.iadd, 1, 0, 0, 0, 0), (.invokevirtual 124, 3, 50, 2, 0, 0), (.imul, 1, 0, 0, 0, 0), (.istore_n 3, 1, 0, 0, 0, 0), (.iload_n 3, 1, 0, 0, 0, 0), (.aload_n 1, 1, 0, 0, 0, 0), (.invokevirtual 162, 3, 61, 0, 0, 0), (.isub, 1, 0, 0, 0, 0), (.aload_n 0, 1, 0, 0, 0, 0), (.aload_n 0, 1, 0, 0, 0, 0), (.getfield 26, 3, 0, 7, 0, 0), (.aload_n 1, 1, 0, 0, 0, 0), (.getfield 143, 3, 3, 1, 0, 0), (.aaload, 1, 0, 0, 0, 0), (.invokevirtual 165, 3, 8, 1, 0, 0), (.if_icmp .le 7, 3, 54, 0, 0, 0), (.iconst 1, 1, 0, 0, 1, 0), (.goto 4, 3, 55, 0, 0, 0)]
def zb_36_54 : List zN := [(.iconst 0, 1, 0, 0, 0, 0)]
def zb_36_55 : List zN := [(.ireturn, 1, 0, 0, 0, 0)]
def zc_36 (pc : Nat) : List zN := if pc = 0 then zb_36_0 else if pc = 54 then zb_36_54 else if pc = 55 then zb_36_55 else []
def zb_37_0 : List zN := [(.iconst 0, 1, 0, 0, 0, 0), (.istore_n 2, 1, 0, 0, 0, 0), (.iconst 0, 1, 0, 0, 0, 0), (.istore_n 3, 1, 0, 0, 0, 0)]
def zb_37_4 : List zN := [(.iload_n 3, 1, 0, 0, 0, 0), (.iload_n 1, 1, 0, 0, 0, 0), (.if_icmp .ge 16, 3, 22, 0, 0, 0), (.iload_n 2, 1, 0, 0, 0, 0), (.aload_n 0, 1, 0, 0, 0, 0), (.invokevirtual 191, 3, 38, 0, 0, 0), (.iadd, 1, 0, 0, 0, 0), (.istore_n 2, 1, 0, 0, 0, 0), (.iinc 3 1, 3, 0, 0, 1, 0), (.goto (-15), 3, 4, 0, 0, 0)]
def zb_37_22 : List zN := [(.iload_n 2, 1, 0, 0, 0, 0), (.ireturn, 1, 0, 0, 0, 0)]
def zc_37 (pc : Nat) : List zN := if pc = 0 then zb_37_0 else if pc = 4 then zb_37_4 else if pc = 22 then zb_37_22 else []
def zb_38_0 : List zN := [(.iconst 0, 1, 0, 0, 0, 0), (.istore_n 1, 1, 0, 0, 0, 0), (.aload_n 0, 1, 0, 0, 0, 0), (.dup, 1, 0, 0, 0, 0), (.getfield 50, 3, 0, 0, 0, 0), (.iconst 1, 1, 0, 0, 1, 0), (.iadd, 1, 0, 0, 0, 0), (.putfield 50, 3, 0, 0, 0, 0), (.iconst 0, 1, 0, 0, 0, 0), (.istore_n 2, 1, 0, 0, 0, 0)]
def zb_38_14 : List zN := [(.iload_n 2, 1, 0, 0, 0, 0), (.aload_n 0, 1, 0, 0, 0, 0), (.getfield 59, 3, 0, 5, 0, 0), (.if_icmp .ge 45, 3, 64, 0, 0, 0), (.aload_n 0, 1, 0, 0, 0, 0), (.getfield 38, 3, 0, 9, 0, 0), (.iload_n 2, 1, 0, 0, 0, 0), (.aaload, 1, 0, 0, 0, 0), (.astore_n 3, 1, 0, 0, 0, 0), (.aload_n 3, 1, 0, 0, 0, 0), (.getfield 93, 3, 3, 0, 0, 0), (.iconst 1, 1, 0, 0, 1, 0), (.if_icmp .ne 24, 3, 58, 0, 0, 0), (.aload_n 0, 1, 0, 0, 0, 0), (.aload_n 3, 1, 0, 0, 0, 0), (.invokevirtual 194, 3, 35, 1, 0, 0), (.ifCond .eq 16, 3, 58, 0, 0, 0), (.aload_n 0, 1, 0, 0, 0, 0), (.aload_n 3, 1, 0, 0, 0, 0), (.iconst 3, 1, 0, 0, 3, 0), (.aload_n 3, 1, 0, 0, 0, 0), (.invokevirtual 131, 3, 60, 0, 0, 0), (.invokevirtual 197, 3, 24, 3, 0, 0), (.iinc 1 1, 3, 0, 0, 1, 0)]
def zb_38_58 : List zN := [(.iinc 2 1, 3, 0, 0, 1, 0), (.goto (-47), 3, 14, 0, 0, 0)]
def zb_38_64 : List zN := [(.aload_n 0, 1, 0, 0, 0, 0), (.invokevirtual 201, 3, 3, 0, 0, 0), (.iload_n 1, 1, 0, 0, 0, 0), (.ireturn, 1, 0, 0, 0, 0)]
def zc_38 (pc : Nat) : List zN := if pc = 0 then zb_38_0 else if pc = 14 then zb_38_14 else if pc = 58 then zb_38_58 else if pc = 64 then zb_38_64 else []
def zb_39_0 : List zN := [(.aload_n 0, 1, 0, 0, 0, 0), (.iconst 0, 1, 0, 0, 0, 0), (.putfield 263, 3, 0, 11, 0, 0), (.iconst 0, 1, 0, 0, 0, 0), (.istore_n 1, 1, 0, 0, 0, 0)]
def zb_39_7 : List zN := [(.iload_n 1, 1, 0, 0, 0, 0), (.aload_n 0, 1, 0, 0, 0, 0), (.getfield 59, 3, 0, 5, 0, 0), (.if_icmp .ge 36, 3, 48, 0, 0, 0), (.aload_n 0, 1, 0, 0, 0, 0), (.getfield 38, 3, 0, 9, 0, 0), (.iload_n 1, 1, 0, 0, 0, 0), (.aaload, 1, 0, 0, 0, 0), (.getfield 93, 3, 3, 0, 0, 0), (.iconst 1, 1, 0, 0, 1, 0), (.if_icmp .ne 17, 3, 42, 0, 0, 0), (.aload_n 0, 1, 0, 0, 0, 0), (.aload_n 0, 1, 0, 0, 0, 0), (.getfield 38, 3, 0, 9, 0, 0), (.iload_n 1, 1, 0, 0, 0, 0), (.aaload, 1, 0, 0, 0, 0), (.invokevirtual 131, 3, 60, 0, 0, 0), (.iload_n 1, 1, 0, 0, 0, 0), (.invokevirtual 266, 3, 5, 2, 0, 0)]
def zb_39_42 : List zN := [(.iinc 1 1, 3, 0, 0, 1, 0), (.goto (-38), 3, 7, 0, 0, 0)]
def zb_39_48 : List zN := [(.aload_n 0, 1, 0, 0, 0, 0), (.getfield 263, 3, 0, 11, 0, 0), (.ireturn, 1, 0, 0, 0, 0)]
def zc_39 (pc : Nat) : List zN := if pc = 0 then zb_39_0 else if pc = 7 then zb_39_7 else if pc = 42 then zb_39_42 else if pc = 48 then zb_39_48 else []
def zb_40_0 : List zN := [(.aload_n 0, 1, 0, 0, 0, 0), (.iconst 0, 1, 0, 0, 0, 0), (.putfield 263, 3, 0, 11, 0, 0), (.iconst 0, 1, 0, 0, 0, 0), (.istore_n 1, 1, 0, 0, 0, 0)]
def zb_40_7 : List zN := [(.iload_n 1, 1, 0, 0, 0, 0), (.aload_n 0, 1, 0, 0, 0, 0), (.getfield 59, 3, 0, 5, 0, 0), (.if_icmp .ge 41, 3, 53, 0, 0, 0), (.aload_n 0, 1, 0, 0, 0, 0), (.getfield 38, 3, 0, 9, 0, 0), (.iload_n 1, 1, 0, 0, 0, 0), (.aaload, 1, 0, 0, 0, 0), (.getfield 93, 3, 3, 0, 0, 0), (.iconst 1, 1, 0, 0, 1, 0), (.if_icmp .ne 22, 3, 47, 0, 0, 0), (.aload_n 0, 1, 0, 0, 0, 0), (.aload_n 0, 1, 0, 0, 0, 0), (.getfield 38, 3, 0, 9, 0, 0), (.iload_n 1, 1, 0, 0, 0, 0), (.aaload, 1, 0, 0, 0, 0), (.invokevirtual 269, 3, 41, 1, 0, 0), (.ifCond .eq 9, 3, 47, 0, 0, 0), (.aload_n 0, 1, 0, 0, 0, 0), (.iconst 0, 1, 0, 0, 0, 0), (.iload_n 1, 1, 0, 0, 0, 0), (.invokevirtual 266, 3, 5, 2, 0, 0)]
def zb_40_47 : List zN := [(.iinc 1 1, 3, 0, 0, 1, 0), (.goto (-43), 3, 7, 0, 0, 0)]
def zb_40_53 : List zN := [(.aload_n 0, 1, 0, 0, 0, 0), (.getfield 263, 3, 0, 11, 0, 0), (.ireturn, 1, 0, 0, 0, 0)]
def zc_40 (pc : Nat) : List zN := if pc = 0 then zb_40_0 else if pc = 7 then zb_40_7 else if pc = 47 then zb_40_47 else if pc = 53 then zb_40_53 else []
def zb_41_0 : List zN := [(.aload_n 1, 1, 0, 0, 0, 0), (.invokevirtual 131, 3, 60, 0, 0, 0), (.aload_n 0, 1, 0, 0, 0, 0), (.getfield 50, 3, 0, 0, 0, 0), (.if_icmp .ge 7, 3, 15, 0, 0, 0), (.iconst 1, 1, 0, 0, 1, 0), (.goto 4, 3, 16, 0, 0, 0)]
def zb_41_15 : List zN := [(.iconst 0, 1, 0, 0, 0, 0)]
def zb_41_16 : List zN := [(.ireturn, 1, 0, 0, 0, 0)]
def zc_41 (pc : Nat) : List zN := if pc = 0 then zb_41_0 else if pc = 15 then zb_41_15 else if pc = 16 then zb_41_16 else []
def zb_42_0 : List zN := [(.iconst 0, 1, 0, 0, 0, 0), (.istore_n 1, 1, 0, 0, 0, 0), (.iconst 0, 1, 0, 0, 0, 0), (.istore_n 2, 1, 0, 0, 0, 0)]
def zb_42_4 : List zN := [(.iload_n 2, 1, 0, 0, 0, 0), (.aload_n 0, 1, 0, 0, 0, 0), (.getfield 53, 3, 0, 3, 0, 0), (.if_icmp .ge 21, 3, 30, 0, 0, 0), (.iload_n 1, 1, 0, 0, 0, 0), (.aload_n 0, 1, 0, 0, 0, 0), (.getfield 20, 3, 0, 6, 0, 0), (.iload_n 2, 1, 0, 0, 0, 0), (.aaload, 1, 0, 0, 0, 0), (.getfield 99, 3, 1, 2, 0, 0), (.iadd, 1, 0, 0, 0, 0), (.istore_n 1, 1, 0, 0, 0, 0), (.iinc 2 1, 3, 0, 0, 1, 0), (.goto (-23), 3, 4, 0, 0, 0)]
def zb_42_30 : List zN := [(.iload_n 1, 1, 0, 0, 0, 0), (.ireturn, 1, 0, 0, 0, 0)]
def zc_42 (pc : Nat) : List zN := if pc = 0 then zb_42_0 else if pc = 4 then zb_42_4 else if pc = 30 then zb_42_30 else []
def zb_43_0 : List zN := [(.iconst 0, 1, 0, 0, 0, 0), (.istore_n 1, 1, 0, 0, 0, 0), (.iconst 0, 1, 0, 0, 0, 0), (.istore_n 2, 1, 0, 0, 0, 0)]
def zb_43_4 : List zN := [(.iload_n 2, 1, 0, 0, 0, 0), (.aload_n 0, 1, 0, 0, 0, 0), (.getfield 53, 3, 0, 3, 0, 0), (.if_icmp .ge 21, 3, 30, 0, 0, 0), (.iload_n 1, 1, 0, 0, 0, 0), (.aload_n 0, 1, 0, 0, 0, 0), (.getfield 20, 3, 0, 6, 0, 0), (.iload_n 2, 1, 0, 0, 0, 0), (.aaload, 1, 0, 0, 0, 0), (.getfield 96, 3, 1, 1, 0, 0), (.iadd, 1, 0, 0, 0, 0), (.istore_n 1, 1, 0, 0, 0, 0), (.iinc 2 1, 3, 0, 0, 1, 0), (.goto (-23), 3, 4, 0, 0, 0)]
def zb_43_30 : List zN := [(.iload_n 1, 1, 0, 0, 0, 0), (.ireturn, 1, 0, 0, 0, 0)]
def zc_43 (pc : Nat) : List zN := if pc = 0 then zb_43_0 else if pc = 4 then zb_43_4 else if pc = 30 then zb_43_30 else []
def zb_44_0 : List zN := [(.iconst 0, 1, 0, 0, 0, 0), (.istore_n 1, 1, 0, 0, 0, 0), (.iconst 0, 1, 0, 0, 0, 0), (.istore_n 2, 1, 0, 0, 0, 0)]
def zb_44_4 : List zN := [(.iload_n 2, 1, 0, 0, 0, 0), (.aload_n 0, 1, 0, 0, 0, 0), (.getfield 56, 3, 0, 4, 0, 0), (.if_icmp .ge 36, 3, 45, 0, 0, 0), (.iconst 0, 1, 0, 0, 0, 0), (.istore_n 3, 1, 0, 0, 0, 0)]
def zb_44_14 : List zN := [(.iload_n 3, 1, 0, 0, 0, 0), (.iconst 5, 1, 0, 0, 5, 0), (.if_icmp .ge 23, 3, 39, 0, 0, 0), (.iload_n 1, 1, 0, 0, 0, 0), (.aload_n 0, 1, 0, 0, 0, 0), (.getfield 26, 3, 0, 7, 0, 0), (.iload_n 2, 1, 0, 0, 0, 0), (.aaload, 1, 0, 0, 0, 0), (.getfield 102, 3, 4, 0, 0, 0), (.iload_n 3, 1, 0, 0, 0, 0), (.iaload, 1, 0, 0, 0, 0), (.iadd, 1, 0, 0, 0, 0), (.istore_n 1, 1, 0, 0, 0, 0), (.iinc 3 1, 3, 0, 0, 1, 0), (.goto (-22), 3, 14, 0, 0, 0)]
def zb_44_39 : List zN := [(.iinc 2 1, 3, 0, 0, 1, 0), (.goto (-38), 3, 4, 0, 0, 0)]
def zb_44_45 : List zN := [(.iload_n 1, 1, 0, 0, 0, 0), (.ireturn, 1, 0, 0, 0, 0)]
def zc_44 (pc : Nat) : List zN := if pc = 0 then zb_44_0 else if pc = 4 then zb_44_4 else if pc = 14 then zb_44_14 else if pc = 39 then zb_44_39 else if pc = 45 then zb_44_45 else []
def zb_45_0 : List zN := [(.aload_n 0, 1, 0, 0, 0, 0), (.aload_n 1, 1, 0, 0, 0, 0), (.getfield 7, 3, 1, 0, 0, 0), (.putfield 7, 3, 1, 0, 0, 0), (.aload_n 0, 1, 0, 0, 0, 0), (.aload_n 1, 1, 0, 0, 0, 0), (.getfield 13, 3, 1, 1, 0, 0), (.putfield 13, 3, 1, 1, 0, 0), (.aload_n 0, 1, 0, 0, 0, 0), (.aload_n 1, 1, 0, 0, 0, 0), (.getfield 16, 3, 1, 2, 0, 0), (.putfield 16, 3, 1, 2, 0, 0), (.aload_n 0, 1, 0, 0, 0, 0), (.aload_n 1, 1, 0, 0, 0, 0), (.getfield 19, 3, 1, 3, 0, 0), (.putfield 19, 3, 1, 3, 0, 0), (.aload_n 0, 1, 0, 0, 0, 0), (.aload_n 1, 1, 0, 0, 0, 0), (.getfield 23, 3, 1, 4, 0, 0), (.putfield 23, 3, 1, 4, 0, 0), (.return_, 1, 0, 0, 0, 0)]
def zc_45 (pc : Nat) : List zN := if pc = 0 then zb_45_0 else []
def zb_46_0 : List zN := [(.aload_n 0, 1, 0, 0, 0, 0), (.iload_n 1, 1, 0, 0, 0, 0), (.putfield 7, 3, 1, 0, 0, 0), (.aload_n 0, 1, 0, 0, 0, 0), (.iconst 0, 1, 0, 0, 0, 0), (.putfield 13, 3, 1, 1, 0, 0), (.aload_n 0, 1, 0, 0, 0, 0), (.iconst 0, 1, 0, 0, 0, 0), (.putfield 16, 3, 1, 2, 0, 0), (.aload_n 0, 1, 0, 0, 0, 0), (.lconst 0, 1, 0, 0, 0, 0), (.putfield 19, 3, 1, 3, 0, 0), (.aload_n 0, 1, 0, 0, 0, 0), (.lconst 0, 1, 0, 0, 0, 0), (.putfield 23, 3, 1, 4, 0, 0), (.return_, 1, 0, 0, 0, 0)]
def zc_46 (pc : Nat) : List zN := if pc = 0 then zb_46_0 else []
def zb_47_0 : List zN := [(.aload_n 0, 1, 0, 0, 0, 0), (.getfield 7, 3, 1, 0, 0, 0), (.aload_n 0, 1, 0, 0, 0, 0), (.getfield 13, 3, 1, 1, 0, 0), (.isub, 1, 0, 0, 0, 0), (.aload_n 0, 1, 0, 0, 0, 0), (.getfield 16, 3, 1, 2, 0, 0), (.isub, 1, 0, 0, 0, 0), (.ireturn, 1, 0, 0, 0, 0)]
def zc_47 (pc : Nat) : List zN := if pc = 0 then zb_47_0 else []
def zb_48_0 : List zN := [(.aload_n 0, 1, 0, 0, 0, 0), (.dup, 1, 0, 0, 0, 0), (.getfield 16, 3, 1, 2, 0, 0), (.iload_n 1, 1, 0, 0, 0, 0), (.iadd, 1, 0, 0, 0, 0), (.putfield 16, 3, 1, 2, 0, 0), (.aload_n 0, 1, 0, 0, 0, 0), (.dup, 1, 0, 0, 0, 0), (.getfield 19, 3, 1, 3, 0, 0), (.iload_n 1, 1, 0, 0, 0, 0), (.i2l, 1, 0, 0, 0, 0), (.ladd, 1, 0, 0, 0, 0), (.putfield 19, 3, 1, 3, 0, 0), (.return_, 1, 0, 0, 0, 0)]
def zc_48 (pc : Nat) : List zN := if pc = 0 then zb_48_0 else []
def zb_49_0 : List zN := [(.aload_n 1, 1, 0, 0, 0, 0), (.getfield 9, 3, 2, 0, 0, 0), (.iconst 0, 1, 0, 0, 0, 0), (.aload_n 0, 1, 0, 0, 0, 0), (.getfield 9, 3, 2, 0, 0, 0), (.iconst 0, 1, 0, 0, 0, 0), (.bipush 13, 2, 0, 0, 13, 0), (.invokestatic 48, 3, 999, 5, 0, 0), (.aload_n 1, 1, 0, 0, 0, 0), (.getfield 15, 3, 2, 1, 0, 0), (.iconst 0, 1, 0, 0, 0, 0), (.aload_n 0, 1, 0, 0, 0, 0), (.getfield 15, 3, 2, 1, 0, 0), (.iconst 0, 1, 0, 0, 0, 0), (.bipush 13, 2, 0, 0, 13, 0), (.invokestatic 48, 3, 999, 5, 0, 0), (.aload_n 0, 1, 0, 0, 0, 0), (.aload_n 1, 1, 0, 0, 0, 0), (.getfield 18, 3, 2, 2, 0, 0), (.putfield 18, 3, 2, 2, 0, 0), (.aload_n 0, 1, 0, 0, 0, 0), (.aload_n 1, 1, 0, 0, 0, 0), (.getfield 39, 3, 2, 3, 0, 0), (.putfield 39, 3, 2, 3, 0, 0), (.aload_n 0, 1, 0, 0, 0, 0), (.aload_n 1, 1, 0, 0, 0, 0), (.getfield 42, 3, 2, 4, 0, 0), (.putfield 42, 3, 2, 4, 0, 0), (.return_, 1, 0, 0, 0, 0)]
def zc_49 (pc : Nat) : List zN := if pc = 0 then zb_49_0 else []
def zb_50_0 : List zN := [(.iconst 0, 1, 0, 0, 0, 0), (.istore_n 3, 1, 0, 0, 0, 0), (.iconst 0, 1, 0, 0, 0, 0), (.istore 4, 2, 0, 0, 0, 0)]
def zb_50_5 : List zN := [(.iload 4, 2, 0, 0, 0, 0), (.aload_n 0, 1, 0, 0, 0, 0), (.getfield 18, 3, 2, 2, 0, 0), (.if_icmp .ge 53, 3, 64, 0, 0, 0), (.aload_n 0, 1, 0, 0, 0, 0), (.getfield 9, 3, 2, 0, 0, 0), (.iload 4, 2, 0, 0, 0, 0), (.iaload, 1, 0, 0, 0, 0), (.iload_n 2, 1, 0, 0, 0, 0), (.if_icmp .gt 42, 3, 64, 0, 0, 0), (.aload_n 0, 1, 0, 0, 0, 0), (.getfield 9, 3, 2, 0, 0, 0), (.iload 4, 2, 0, 0, 0, 0), (.iaload, 1, 0, 0, 0, 0), (.iload_n 1, 1, 0, 0, 0, 0), (.if_icmp .gt 13, 3, 46, 0, 0, 0), (.aload_n 0, 1, 0, 0, 0, 0), (.getfield 15, 3, 2, 1, 0, 0), (.iload 4, 2, 0, 0, 0, 0), (.iaload, 1, 0, 0, 0, 0), (.goto 14, 3, 57, 0, 0, 0)]
def zb_50_46 : List zN := [(.iload_n 3, 1, 0, 0, 0, 0), (.aload_n 0, 1, 0, 0, 0, 0), (.getfield 15, 3, 2, 1, 0, 0), (.iload 4, 2, 0, 0, 0, 0), (.iaload, 1, 0, 0, 0, 0), (.invokestatic 22, 3, 226, 2, 0, 0)]
def zb_50_57 : List zN := [(.istore_n 3, 1, 0, 0, 0, 0), (.iinc 4 1, 3, 0, 0, 1, 0), (.goto (-56), 3, 5, 0, 0, 0)]
def zb_50_64 : List zN := [(.iload_n 3, 1, 0, 0, 0, 0), (.ireturn, 1, 0, 0, 0, 0)]
def zc_50 (pc : Nat) : List zN := if pc = 0 then zb_50_0 else if pc = 5 then zb_50_5 else if pc = 46 then zb_50_46 else if pc = 57 then zb_50_57 else if pc = 64 then zb_50_64 else []
def zb_51_0 : List zN := [(.iconst 0, 1, 0, 0, 0, 0), (.istore_n 3, 1, 0, 0, 0, 0)]
def zb_51_2 : List zN := [(.iload_n 3, 1, 0, 0, 0, 0), (.aload_n 0, 1, 0, 0, 0, 0), (.getfield 18, 3, 2, 2, 0, 0), (.if_icmp .ge 19, 3, 26, 0, 0, 0), (.aload_n 0, 1, 0, 0, 0, 0), (.getfield 9, 3, 2, 0, 0, 0), (.iload_n 3, 1, 0, 0, 0, 0), (.iaload, 1, 0, 0, 0, 0), (.iload_n 1, 1, 0, 0, 0, 0), (.if_icmp .ge 9, 3, 26, 0, 0, 0), (.iinc 3 1, 3, 0, 0, 1, 0), (.goto (-21), 3, 2, 0, 0, 0)]
def zb_51_26 : List zN := [(.iload_n 3, 1, 0, 0, 0, 0), (.bipush 12, 2, 0, 0, 12, 0), (.if_icmp .le 4, 3, 33, 0, 0, 0), (.return_, 1, 0, 0, 0, 0)]
def zb_51_33 : List zN := [(.iload_n 3, 1, 0, 0, 0, 0), (.aload_n 0, 1, 0, 0, 0, 0), (.getfield 18, 3, 2, 2, 0, 0), (.if_icmp .eq 13, 3, 51, 0, 0, 0), (.aload_n 0, 1, 0, 0, 0, 0), (.getfield 9, 3, 2, 0, 0, 0), (.iload_n 3, 1, 0, 0, 0, 0), (.iaload, 1, 0, 0, 0, 0), (.iload_n 1, 1, 0, 0, 0, 0), (.if_icmp .eq 8, 3, 56, 0, 0, 0)]
def zb_51_51 : List zN := [(.aload_n 0, 1, 0, 0, 0, 0), (.iload_n 3, 1, 0, 0, 0, 0), (.invokevirtual 35, 3, 52, 1, 0, 0)]
def zb_51_56 : List zN := [(.aload_n 0, 1, 0, 0, 0, 0), (.getfield 9, 3, 2, 0, 0, 0), (.iload_n 3, 1, 0, 0, 0, 0), (.iload_n 1, 1, 0, 0, 0, 0), (.iastore, 1, 0, 0, 0, 0), (.aload_n 0, 1, 0, 0, 0, 0), (.getfield 15, 3, 2, 1, 0, 0), (.iload_n 3, 1, 0, 0, 0, 0), (.iload_n 2, 1, 0, 0, 0, 0), (.iastore, 1, 0, 0, 0, 0), (.return_, 1, 0, 0, 0, 0)]
def zc_51 (pc : Nat) : List zN := if pc = 0 then zb_51_0 else if pc = 2 then zb_51_2 else if pc = 26 then zb_51_26 else if pc = 33 then zb_51_33 else if pc = 51 then zb_51_51 else if pc = 56 then zb_51_56 else []
def zb_52_0 : List zN := [(.aload_n 0, 1, 0, 0, 0, 0), (.getfield 18, 3, 2, 2, 0, 0), (.bipush 12, 2, 0, 0, 12, 0), (.if_icmp .le 4, 3, 10, 0, 0, 0), (.return_, 1, 0, 0, 0, 0)]
def zb_52_10 : List zN := [(.aload_n 0, 1, 0, 0, 0, 0), (.getfield 18, 3, 2, 2, 0, 0), (.istore_n 2, 1, 0, 0, 0, 0)]
def zb_52_15 : List zN := [(.iload_n 2, 1, 0, 0, 0, 0), (.iload_n 1, 1, 0, 0, 0, 0), (.if_icmp .le 37, 3, 54, 0, 0, 0), (.aload_n 0, 1, 0, 0, 0, 0), (.getfield 9, 3, 2, 0, 0, 0), (.iload_n 2, 1, 0, 0, 0, 0), (.aload_n 0, 1, 0, 0, 0, 0), (.getfield 9, 3, 2, 0, 0, 0), (.iload_n 2, 1, 0, 0, 0, 0), (.iconst 1, 1, 0, 0, 1, 0), (.isub, 1, 0, 0, 0, 0), (.iaload, 1, 0, 0, 0, 0), (.iastore, 1, 0, 0, 0, 0), (.aload_n 0, 1, 0, 0, 0, 0), (.getfield 15, 3, 2, 1, 0, 0), (.iload_n 2, 1, 0, 0, 0, 0), (.aload_n 0, 1, 0, 0, 0, 0), (.getfield 15, 3, 2, 1, 0, 0), (.iload_n 2, 1, 0, 0, 0, 0), (.iconst 1, 1, 0, 0, 1, 0), (.isub, 1, 0, 0, 0, 0), (.iaload, 1, 0, 0, 0, 0), (.iastore, 1, 0, 0, 0, 0), (.iinc 2 (-1), 3, 0, 0, (-1), 0), (.goto (-36), 3, 15, 0, 0, 0)]
def zb_52_54 : List zN := [(.aload_n 0, 1, 0, 0, 0, 0), (.dup, 1, 0, 0, 0, 0), (.getfield 18, 3, 2, 2, 0, 0), (.iconst 1, 1, 0, 0, 1, 0), (.iadd, 1, 0, 0, 0, 0), (.putfield 18, 3, 2, 2, 0, 0), (.return_, 1, 0, 0, 0, 0)]
def zc_52 (pc : Nat) : List zN := if pc = 0 then zb_52_0 else if pc = 10 then zb_52_10 else if pc = 15 then zb_52_15 else if pc = 54 then zb_52_54 else []
def zb_53_0 : List zN := [(.iconst 0, 1, 0, 0, 0, 0), (.istore_n 2, 1, 0, 0, 0, 0)]
def zb_53_2 : List zN := [(.iload_n 2, 1, 0, 0, 0, 0), (.aload_n 0, 1, 0, 0, 0, 0), (.getfield 18, 3, 2, 2, 0, 0), (.if_icmp .ge 21, 3, 28, 0, 0, 0), (.aload_n 0, 1, 0, 0, 0, 0), (.getfield 9, 3, 2, 0, 0, 0), (.iload_n 2, 1, 0, 0, 0, 0), (.iaload, 1, 0, 0, 0, 0), (.iload_n 1, 1, 0, 0, 0, 0), (.if_icmp .ne 5, 3, 22, 0, 0, 0), (.iconst 1, 1, 0, 0, 1, 0), (.ireturn, 1, 0, 0, 0, 0)]
def zb_53_22 : List zN := [(.iinc 2 1, 3, 0, 0, 1, 0), (.goto (-23), 3, 2, 0, 0, 0)]
def zb_53_28 : List zN := [(.iconst 0, 1, 0, 0, 0, 0), (.ireturn, 1, 0, 0, 0, 0)]
def zc_53 (pc : Nat) : List zN := if pc = 0 then zb_53_0 else if pc = 2 then zb_53_2 else if pc = 22 then zb_53_22 else if pc = 28 then zb_53_28 else []
def zb_54_0 : List zN := [(.iconst 0, 1, 0, 0, 0, 0), (.istore_n 2, 1, 0, 0, 0, 0), (.iconst 0, 1, 0, 0, 0, 0), (.istore_n 3, 1, 0, 0, 0, 0)]
def zb_54_4 : List zN := [(.iload_n 3, 1, 0, 0, 0, 0), (.aload_n 0, 1, 0, 0, 0, 0), (.getfield 18, 3, 2, 2, 0, 0), (.if_icmp .ge 26, 3, 35, 0, 0, 0), (.aload_n 0, 1, 0, 0, 0, 0), (.getfield 9, 3, 2, 0, 0, 0), (.iload_n 3, 1, 0, 0, 0, 0), (.iaload, 1, 0, 0, 0, 0), (.iload_n 1, 1, 0, 0, 0, 0), (.if_icmp .gt 16, 3, 35, 0, 0, 0), (.aload_n 0, 1, 0, 0, 0, 0), (.getfield 15, 3, 2, 1, 0, 0), (.iload_n 3, 1, 0, 0, 0, 0), (.iaload, 1, 0, 0, 0, 0), (.istore_n 2, 1, 0, 0, 0, 0), (.iinc 3 1, 3, 0, 0, 1, 0), (.goto (-28), 3, 4, 0, 0, 0)]
def zb_54_35 : List zN := [(.iload_n 2, 1, 0, 0, 0, 0), (.ireturn, 1, 0, 0, 0, 0)]
def zc_54 (pc : Nat) : List zN := if pc = 0 then zb_54_0 else if pc = 4 then zb_54_4 else if pc = 35 then zb_54_35 else []
def zb_55_0 : List zN := [(.iload_n 1, 1, 0, 0, 0, 0), (.aload_n 0, 1, 0, 0, 0, 0), (.getfield 39, 3, 2, 3, 0, 0), (.iload_n 2, 1, 0, 0, 0, 0), (.imul, 1, 0, 0, 0, 0), (.aload_n 0, 1, 0, 0, 0, 0), (.getfield 42, 3, 2, 4, 0, 0), (.invokestatic 45, 3, 227, 2, 0, 0), (.imul, 1, 0, 0, 0, 0), (.sipush 10000, 3, 0, 0, 10000, 0), (.idiv, 1, 0, 0, 0, 0), (.ireturn, 1, 0, 0, 0, 0)]
def zc_55 (pc : Nat) : List zN := if pc = 0 then zb_55_0 else []
def zb_56_0 : List zN := [(.iload_n 1, 1, 0, 0, 0, 0), (.istore 4, 2, 0, 0, 0, 0), (.aload_n 0, 1, 0, 0, 0, 0), (.iload_n 1, 1, 0, 0, 0, 0), (.iload_n 1, 1, 0, 0, 0, 0), (.iload_n 3, 1, 0, 0, 0, 0), (.iadd, 1, 0, 0, 0, 0), (.invokevirtual 32, 3, 50, 2, 0, 0), (.istore 5, 2, 0, 0, 0, 0), (.iconst 0, 1, 0, 0, 0, 0), (.istore 6, 2, 0, 0, 0, 0)]
def zb_56_16 : List zN := [(.iload 6, 2, 0, 0, 0, 0), (.aload_n 0, 1, 0, 0, 0, 0), (.getfield 18, 3, 2, 2, 0, 0), (.if_icmp .ge 73, 3, 95, 0, 0, 0), (.aload_n 0, 1, 0, 0, 0, 0), (.getfield 9, 3, 2, 0, 0, 0), (.iload 6, 2, 0, 0, 0, 0), (.iaload, 1, 0, 0, 0, 0), (.iload_n 1, 1, 0, 0, 0, 0), (.if_icmp .le 56, 3, 89, 0, 0, 0), (.aload_n 0, 1, 0, 0, 0, 0), (.getfield 9, 3, 2, 0, 0, 0), (.iload 6, 2, 0, 0, 0, 0), (.iaload, 1, 0, 0, 0, 0), (.iload_n 2, 1, 0, 0, 0, 0), (.if_icmp .gt 45, 3, 89, 0, 0, 0), (.aload_n 0, 1, 0, 0, 0, 0), (.aload_n 0, 1, 0, 0, 0, 0), (.getfield 9, 3, 2, 0, 0, 0), (.iload 6, 2, 0, 0, 0, 0), (.iaload, 1, 0, 0, 0, 0), (.aload_n 0, 1, 0, 0, 0, 0), (.getfield 9, 3, 2, 0, 0, 0), (.iload 6, 2, 0, 0, 0, 0), (.iaload, 1, 0, 0, 0, 0), (.iload_n 3, 1, 0, 0, 0, 0), (.iadd, 1, 0, 0, 0, 0), (.invokevirtual 32, 3, 50, 2, 0, 0), (.istore 7, 2, 0, 0, 0, 0), (.iload 7, 2, 0, 0, 0, 0), (.iload 5, 2, 0, 0, 0, 0), (.if_icmp .ge 16, 3, 89, 0, 0, 0), (.aload_n 0, 1, 0, 0, 0, 0), (.getfield 9, 3, 2, 0, 0, 0), (.iload 6, 2, 0, 0, 0, 0), (.iaload, 1, 0, 0, 0, 0), (.istore 4, 2, 0, 0, 0, 0), (.iload 7, 2, 0, 0, 0, 0), (.istore 5, 2, 0, 0, 0, 0)]
def zb_56_89 : List zN := [(.iinc 6 1, 3, 0, 0, 1, 0), (.goto (-76), 3, 16, 0, 0, 0)]
def zb_56_95 : List zN := [(.iload 4, 2, 0, 0, 0, 0), (.ireturn, 1, 0, 0, 0, 0)]
def zc_56 (pc : Nat) : List zN := if pc = 0 then zb_56_0 else if pc = 16 then zb_56_16 else if pc = 89 then zb_56_89 else if pc = 95 then zb_56_95 else []
def zb_57_0 : List zN := [(.iload_n 1, 1, 0, 0, 0, 0), (.istore 4, 2, 0, 0, 0, 0), (.aload_n 0, 1, 0, 0, 0, 0), (.iload_n 1, 1, 0, 0, 0, 0), (.invokevirtual 28, 3, 54, 1, 0, 0), (.istore 5, 2, 0, 0, 0, 0), (.iconst 0, 1, 0, 0, 0, 0), (.istore 6, 2, 0, 0, 0, 0)]
def zb_57_13 : List zN := [(.iload 6, 2, 0, 0, 0, 0), (.aload_n 0, 1, 0, 0, 0, 0), (.getfield 18, 3, 2, 2, 0, 0), (.if_icmp .ge 92, 3, 111, 0, 0, 0), (.aload_n 0, 1, 0, 0, 0, 0), (.getfield 9, 3, 2, 0, 0, 0), (.iload 6, 2, 0, 0, 0, 0), (.iaload, 1, 0, 0, 0, 0), (.iload_n 1, 1, 0, 0, 0, 0), (.if_icmp .le 18, 3, 48, 0, 0, 0), (.aload_n 0, 1, 0, 0, 0, 0), (.getfield 9, 3, 2, 0, 0, 0), (.iload 6, 2, 0, 0, 0, 0), (.iaload, 1, 0, 0, 0, 0), (.iload_n 2, 1, 0, 0, 0, 0), (.if_icmp .gt 7, 3, 48, 0, 0, 0), (.iconst 1, 1, 0, 0, 1, 0), (.goto 4, 3, 49, 0, 0, 0)]
def zb_57_48 : List zN := [(.iconst 0, 1, 0, 0, 0, 0)]
def zb_57_49 : List zN := [(.istore 7, 2, 0, 0, 0, 0), (.iload 7, 2, 0, 0, 0, 0), (.ifCond .eq 52, 3, 105, 0, 0, 0), (.iload_n 3, 1, 0, 0, 0, 0), (.ifCond .eq 18, 3, 75, 0, 0, 0), (.aload_n 0, 1, 0, 0, 0, 0), (.getfield 15, 3, 2, 1, 0, 0), (.iload 6, 2, 0, 0, 0, 0), (.iaload, 1, 0, 0, 0, 0), (.iload 5, 2, 0, 0, 0, 0), (.if_icmp .le 36, 3, 105, 0, 0, 0), (.goto 15, 3, 87, 0, 0, 0)]
def zb_57_75 : List zN := [(.aload_n 0, 1, 0, 0, 0, 0), (.getfield 15, 3, 2, 1, 0, 0), (.iload 6, 2, 0, 0, 0, 0), (.iaload, 1, 0, 0, 0, 0), (.iload 5, 2, 0, 0, 0, 0), (.if_icmp .ge 21, 3, 105, 0, 0, 0)]
def zb_57_87 : List zN := [(.aload_n 0, 1, 0, 0, 0, 0), (.getfield 9, 3, 2, 0, 0, 0), (.iload 6, 2, 0, 0, 0, 0), (.iaload, 1, 0, 0, 0, 0), (.istore 4, 2, 0, 0, 0, 0), (.aload_n 0, 1, 0, 0, 0, 0), (.getfield 15, 3, 2, 1, 0, 0), (.iload 6, 2, 0, 0, 0, 0), (.iaload, 1, 0, 0, 0, 0), (.istore 5, 2, 0, 0, 0, 0)]
def zb_57_105 : List zN := [(.iinc 6 1, 3, 0, 0, 1, 0), (.goto (-95), 3, 13, 0, 0, 0)]
def zb_57_111 : List zN := [(.iload 4, 2, 0, 0, 0, 0), (.ireturn, 1, 0, 0, 0, 0)]
def zc_57 (pc : Nat) : List zN := if pc = 0 then zb_57_0 else if pc = 13 then zb_57_13 else if pc = 48 then zb_57_48 else if pc = 49 then zb_57_49 else if pc = 75 then zb_57_75 else if pc = 87 then zb_57_87 else if pc = 105 then zb_57_105 else if pc = 111 then zb_57_111 else []
def zb_58_0 : List zN := [(.aload_n 0, 1, 0, 0, 0, 0), (.aload_n 1, 1, 0, 0, 0, 0), (.getfield 15, 3, 3, 0, 0, 0), (.putfield 15, 3, 3, 0, 0, 0), (.aload_n 0, 1, 0, 0, 0, 0), (.aload_n 1, 1, 0, 0, 0, 0), (.getfield 19, 3, 3, 1, 0, 0), (.putfield 19, 3, 3, 1, 0, 0), (.aload_n 0, 1, 0, 0, 0, 0), (.aload_n 1, 1, 0, 0, 0, 0), (.getfield 22, 3, 3, 2, 0, 0), (.putfield 22, 3, 3, 2, 0, 0), (.aload_n 0, 1, 0, 0, 0, 0), (.aload_n 1, 1, 0, 0, 0, 0), (.getfield 25, 3, 3, 3, 0, 0), (.putfield 25, 3, 3, 3, 0, 0), (.aload_n 0, 1, 0, 0, 0, 0), (.aload_n 1, 1, 0, 0, 0, 0), (.getfield 28, 3, 3, 4, 0, 0), (.putfield 28, 3, 3, 4, 0, 0), (.aload_n 0, 1, 0, 0, 0, 0), (.aload_n 1, 1, 0, 0, 0, 0), (.getfield 31, 3, 3, 5, 0, 0), (.putfield 31, 3, 3, 5, 0, 0), (.aload_n 0, 1, 0, 0, 0, 0), (.aload_n 1, 1, 0, 0, 0, 0), (.getfield 34, 3, 3, 6, 0, 0), (.putfield 34, 3, 3, 6, 0, 0), (.aload_n 0, 1, 0, 0, 0, 0), (.aload_n 1, 1, 0, 0, 0, 0), (.getfield 37, 3, 3, 7, 0, 0), (.putfield 37, 3, 3, 7, 0, 0), (.aload_n 0, 1, 0, 0, 0, 0), (.aload_n 1, 1, 0, 0, 0, 0), (.getfield 40, 3, 3, 8, 0, 0), (.putfield 40, 3, 3, 8, 0, 0), (.aload_n 0, 1, 0, 0, 0, 0), (.aload_n 1, 1, 0, 0, 0, 0), (.getfield 43, 3, 3, 9, 0, 0), (.putfield 43, 3, 3, 9, 0, 0), (.aload_n 0, 1, 0, 0, 0, 0), (.aload_n 1, 1, 0, 0, 0, 0), (.getfield 46, 3, 3, 10, 0, 0), (.putfield 46, 3, 3, 10, 0, 0), (.aload_n 0, 1, 0, 0, 0, 0), (.aload_n 1, 1, 0, 0, 0, 0), (.getfield 49, 3, 3, 11, 0, 0), (.putfield 49, 3, 3, 11, 0, 0), (.aload_n 0, 1, 0, 0, 0, 0), (.aload_n 1, 1, 0, 0, 0, 0), (.getfield 52, 3, 3, 12, 0, 0), (.putfield 52, 3, 3, 12, 0, 0), (.aload_n 0, 1, 0, 0, 0, 0), (.aload_n 1, 1, 0, 0, 0, 0), (.getfield 55, 3, 3, 13, 0, 0), (.putfield 55, 3, 3, 13, 0, 0), (.aload_n 0, 1, 0, 0, 0, 0), (.aload_n 1, 1, 0, 0, 0, 0), (.getfield 59, 3, 3, 14, 0, 0), (.putfield 59, 3, 3, 14, 0, 0), (.aload_n 1, 1, 0, 0, 0, 0), (.getfield 9, 3, 3, 15, 0, 0), (.iconst 0, 1, 0, 0, 0, 0), (.aload_n 0, 1, 0, 0, 0, 0), (.getfield 9, 3, 3, 15, 0, 0), (.iconst 0, 1, 0, 0, 0, 0), (.iconst 4, 1, 0, 0, 4, 0), (.invokestatic 62, 3, 999, 5, 0, 0), (.return_, 1, 0, 0, 0, 0)]
def zc_58 (pc : Nat) : List zN := if pc = 0 then zb_58_0 else []
def zb_59_0 : List zN := [(.aload_n 0, 1, 0, 0, 0, 0), (.getfield 28, 3, 3, 4, 0, 0), (.aload_n 0, 1, 0, 0, 0, 0), (.getfield 40, 3, 3, 8, 0, 0), (.isub, 1, 0, 0, 0, 0), (.ireturn, 1, 0, 0, 0, 0)]
def zc_59 (pc : Nat) : List zN := if pc = 0 then zb_59_0 else []
def zb_60_0 : List zN := [(.aload_n 0, 1, 0, 0, 0, 0), (.getfield 37, 3, 3, 7, 0, 0), (.aload_n 0, 1, 0, 0, 0, 0), (.getfield 31, 3, 3, 5, 0, 0), (.iadd, 1, 0, 0, 0, 0), (.ireturn, 1, 0, 0, 0, 0)]
def zc_60 (pc : Nat) : List zN := if pc = 0 then zb_60_0 else []
def zb_61_0 : List zN := [(.iconst 0, 1, 0, 0, 0, 0), (.istore_n 1, 1, 0, 0, 0, 0), (.iconst 0, 1, 0, 0, 0, 0), (.istore_n 2, 1, 0, 0, 0, 0)]
def zb_61_4 : List zN := [(.iload_n 2, 1, 0, 0, 0, 0), (.iconst 4, 1, 0, 0, 4, 0), (.if_icmp .ge 18, 3, 24, 0, 0, 0), (.iload_n 1, 1, 0, 0, 0, 0), (.aload_n 0, 1, 0, 0, 0, 0), (.getfield 9, 3, 3, 15, 0, 0), (.iload_n 2, 1, 0, 0, 0, 0), (.iaload, 1, 0, 0, 0, 0), (.iadd, 1, 0, 0, 0, 0), (.istore_n 1, 1, 0, 0, 0, 0), (.iinc 2 1, 3, 0, 0, 1, 0), (.goto (-17), 3, 4, 0, 0, 0)]
def zb_61_24 : List zN := [(.iload_n 1, 1, 0, 0, 0, 0), (.ireturn, 1, 0, 0, 0, 0)]
def zc_61 (pc : Nat) : List zN := if pc = 0 then zb_61_0 else if pc = 4 then zb_61_4 else if pc = 24 then zb_61_24 else []
def zb_62_0 : List zN := [(.aload_n 0, 1, 0, 0, 0, 0), (.iconst 0, 1, 0, 0, 0, 0), (.putfield 15, 3, 3, 0, 0, 0), (.aload_n 0, 1, 0, 0, 0, 0), (.iload_n 1, 1, 0, 0, 0, 0), (.putfield 19, 3, 3, 1, 0, 0), (.aload_n 0, 1, 0, 0, 0, 0), (.iload_n 2, 1, 0, 0, 0, 0), (.putfield 22, 3, 3, 2, 0, 0), (.aload_n 0, 1, 0, 0, 0, 0), (.iload_n 3, 1, 0, 0, 0, 0), (.putfield 25, 3, 3, 3, 0, 0), (.aload_n 0, 1, 0, 0, 0, 0), (.iload 4, 2, 0, 0, 0, 0), (.putfield 28, 3, 3, 4, 0, 0), (.aload_n 0, 1, 0, 0, 0, 0), (.iconst 0, 1, 0, 0, 0, 0), (.putfield 31, 3, 3, 5, 0, 0), (.aload_n 0, 1, 0, 0, 0, 0), (.iconst 0, 1, 0, 0, 0, 0), (.putfield 34, 3, 3, 6, 0, 0), (.aload_n 0, 1, 0, 0, 0, 0), (.iconst (-1), 1, 0, 0, (-1), 0), (.putfield 37, 3, 3, 7, 0, 0), (.aload_n 0, 1, 0, 0, 0, 0), (.iconst 0, 1, 0, 0, 0, 0), (.putfield 40, 3, 3, 8, 0, 0), (.aload_n 0, 1, 0, 0, 0, 0), (.iconst 0, 1, 0, 0, 0, 0), (.putfield 43, 3, 3, 9, 0, 0), (.aload_n 0, 1, 0, 0, 0, 0), (.iconst 0, 1, 0, 0, 0, 0), (.putfield 46, 3, 3, 10, 0, 0), (.aload_n 0, 1, 0, 0, 0, 0), (.iconst 0, 1, 0, 0, 0, 0), (.putfield 49, 3, 3, 11, 0, 0), (.aload_n 0, 1, 0, 0, 0, 0), (.iconst (-1), 1, 0, 0, (-1), 0), (.putfield 52, 3, 3, 12, 0, 0), (.aload_n 0, 1, 0, 0, 0, 0), (.lconst 0, 1, 0, 0, 0, 0), (.putfield 55, 3, 3, 13, 0, 0), (.aload_n 0, 1, 0, 0, 0, 0), (.lconst 0, 1, 0, 0, 0, 0), (.putfield 59, 3, 3, 14, 0, 0), (.iconst 0, 1, 0, 0, 0, 0), (.istore 5, 2, 0, 0, 0, 0)]
def zb_62_79 : List zN := [(.iload 5, 2, 0, 0, 0, 0), (.iconst 4, 1, 0, 0, 4, 0), (.if_icmp .ge 17, 3, 99, 0, 0, 0), (.aload_n 0, 1, 0, 0, 0, 0), (.getfield 9, 3, 3, 15, 0, 0), (.iload 5, 2, 0, 0, 0, 0), (.iconst 0, 1, 0, 0, 0, 0), (.iastore, 1, 0, 0, 0, 0), (.iinc 5 1, 3, 0, 0, 1, 0), (.goto (-17), 3, 79, 0, 0, 0)]
def zb_62_99 : List zN := [(.return_, 1, 0, 0, 0, 0)]
def zc_62 (pc : Nat) : List zN := if pc = 0 then zb_62_0 else if pc = 79 then zb_62_79 else if pc = 99 then zb_62_99 else []
def zb_63_0 : List zN := [(.aload_n 0, 1, 0, 0, 0, 0), (.getfield 15, 3, 3, 0, 0, 0), (.iconst 1, 1, 0, 0, 1, 0), (.if_icmp .ne 23, 3, 28, 0, 0, 0), (.iload_n 1, 1, 0, 0, 0, 0), (.aload_n 0, 1, 0, 0, 0, 0), (.getfield 19, 3, 3, 1, 0, 0), (.if_icmp .eq 15, 3, 28, 0, 0, 0), (.iload_n 1, 1, 0, 0, 0, 0), (.aload_n 0, 1, 0, 0, 0, 0), (.getfield 22, 3, 3, 2, 0, 0), (.if_icmp .eq 7, 3, 28, 0, 0, 0), (.iconst 1, 1, 0, 0, 1, 0), (.goto 4, 3, 29, 0, 0, 0)]
def zb_63_28 : List zN := [(.iconst 0, 1, 0, 0, 0, 0)]
def zb_63_29 : List zN := [(.ireturn, 1, 0, 0, 0, 0)]
def zc_63 (pc : Nat) : List zN := if pc = 0 then zb_63_0 else if pc = 28 then zb_63_28 else if pc = 29 then zb_63_29 else []
def zb_64_0 : List zN := [(.aload_n 1, 1, 0, 0, 0, 0), (.getfield 9, 3, 4, 0, 0, 0), (.iconst 0, 1, 0, 0, 0, 0), (.aload_n 0, 1, 0, 0, 0, 0), (.getfield 9, 3, 4, 0, 0, 0), (.iconst 0, 1, 0, 0, 0, 0), (.iconst 5, 1, 0, 0, 5, 0), (.invokestatic 35, 3, 999, 5, 0, 0), (.aload_n 1, 1, 0, 0, 0, 0), (.getfield 15, 3, 4, 1, 0, 0), (.iconst 0, 1, 0, 0, 0, 0), (.aload_n 0, 1, 0, 0, 0, 0), (.getfield 15, 3, 4, 1, 0, 0), (.iconst 0, 1, 0, 0, 0, 0), (.iconst 4, 1, 0, 0, 4, 0), (.invokestatic 35, 3, 999, 5, 0, 0), (.aload_n 0, 1, 0, 0, 0, 0), (.aload_n 1, 1, 0, 0, 0, 0), (.getfield 26, 3, 4, 2, 0, 0), (.putfield 26, 3, 4, 2, 0, 0), (.return_, 1, 0, 0, 0, 0)]
def zc_64 (pc : Nat) : List zN := if pc = 0 then zb_64_0 else []
def zb_65_0 : List zN := [(.iconst 0, 1, 0, 0, 0, 0), (.istore 4, 2, 0, 0, 0, 0)]
def zb_65_3 : List zN := [(.iload 4, 2, 0, 0, 0, 0), (.iconst 5, 1, 0, 0, 5, 0), (.if_icmp .ge 17, 3, 23, 0, 0, 0), (.aload_n 0, 1, 0, 0, 0, 0), (.getfield 9, 3, 4, 0, 0, 0), (.iload 4, 2, 0, 0, 0, 0), (.iconst 0, 1, 0, 0, 0, 0), (.iastore, 1, 0, 0, 0, 0), (.iinc 4 1, 3, 0, 0, 1, 0), (.goto (-17), 3, 3, 0, 0, 0)]
def zb_65_23 : List zN := [(.aload_n 0, 1, 0, 0, 0, 0), (.iload_n 1, 1, 0, 0, 0, 0), (.iload_n 2, 1, 0, 0, 0, 0), (.iload_n 3, 1, 0, 0, 0, 0), (.invokevirtual 18, 3, 66, 3, 0, 0), (.return_, 1, 0, 0, 0, 0)]
def zc_65 (pc : Nat) : List zN := if pc = 0 then zb_65_0 else if pc = 3 then zb_65_3 else if pc = 23 then zb_65_23 else []
def zb_66_0 : List zN := [(.aload_n 0, 1, 0, 0, 0, 0), (.iload_n 1, 1, 0, 0, 0, 0), (.iconst 0, 1, 0, 0, 0, 0), (.invokevirtual 22, 3, 67, 2, 0, 0), (.istore 4, 2, 0, 0, 0, 0), (.aload_n 0, 1, 0, 0, 0, 0), (.iload_n 2, 1, 0, 0, 0, 0), (.iload 4, 2, 0, 0, 0, 0), (.invokevirtual 22, 3, 67, 2, 0, 0), (.istore 4, 2, 0, 0, 0, 0), (.aload_n 0, 1, 0, 0, 0, 0), (.iload_n 3, 1, 0, 0, 0, 0), (.iload 4, 2, 0, 0, 0, 0), (.invokevirtual 22, 3, 67, 2, 0, 0), (.istore 4, 2, 0, 0, 0, 0), (.aload_n 0, 1, 0, 0, 0, 0), (.iload 4, 2, 0, 0, 0, 0), (.putfield 26, 3, 4, 2, 0, 0), (.iconst 0, 1, 0, 0, 0, 0), (.istore 5, 2, 0, 0, 0, 0)]
def zb_66_35 : List zN := [(.iload 5, 2, 0, 0, 0, 0), (.iconst 4, 1, 0, 0, 4, 0), (.if_icmp .ge 28, 3, 66, 0, 0, 0), (.aload_n 0, 1, 0, 0, 0, 0), (.iload 5, 2, 0, 0, 0, 0), (.invokevirtual 30, 3, 68, 1, 0, 0), (.ifCond .ne 13, 3, 60, 0, 0, 0), (.aload_n 0, 1, 0, 0, 0, 0), (.iload 5, 2, 0, 0, 0, 0), (.iload 4, 2, 0, 0, 0, 0), (.invokevirtual 22, 3, 67, 2, 0, 0), (.istore 4, 2, 0, 0, 0, 0)]
def zb_66_60 : List zN := [(.iinc 5 1, 3, 0, 0, 1, 0), (.goto (-28), 3, 35, 0, 0, 0)]
def zb_66_66 : List zN := [(.return_, 1, 0, 0, 0, 0)]
def zc_66 (pc : Nat) : List zN := if pc = 0 then zb_66_0 else if pc = 35 then zb_66_35 else if pc = 60 then zb_66_60 else if pc = 66 then zb_66_66 else []
def zb_67_0 : List zN := [(.iload_n 1, 1, 0, 0, 0, 0), (.iconst (-1), 1, 0, 0, (-1), 0), (.if_icmp .eq 8, 3, 10, 0, 0, 0), (.iload_n 2, 1, 0, 0, 0, 0), (.iconst 4, 1, 0, 0, 4, 0), (.if_icmp .lt 5, 3, 12, 0, 0, 0)]
def zb_67_10 : List zN := [(.iload_n 2, 1, 0, 0, 0, 0), (.ireturn, 1, 0, 0, 0, 0)]
def zb_67_12 : List zN := [(.aload_n 0, 1, 0, 0, 0, 0), (.getfield 15, 3, 4, 1, 0, 0), (.iload_n 2, 1, 0, 0, 0, 0), (.iload_n 1, 1, 0, 0, 0, 0), (.iastore, 1, 0, 0, 0, 0), (.iload_n 2, 1, 0, 0, 0, 0), (.iconst 1, 1, 0, 0, 1, 0), (.iadd, 1, 0, 0, 0, 0), (.ireturn, 1, 0, 0, 0, 0)]
def zc_67 (pc : Nat) : List zN := if pc = 0 then zb_67_0 else if pc = 10 then zb_67_10 else if pc = 12 then zb_67_12 else []
def zb_68_0 : List zN := [(.iconst 0, 1, 0, 0, 0, 0), (.istore_n 2, 1, 0, 0, 0, 0)]
def zb_68_2 : List zN := [(.iload_n 2, 1, 0, 0, 0, 0), (.aload_n 0, 1, 0, 0, 0, 0), (.getfield 26, 3, 4, 2, 0, 0), (.if_icmp .ge 21, 3, 28, 0, 0, 0), (.aload_n 0, 1, 0, 0, 0, 0), (.getfield 15, 3, 4, 1, 0, 0), (.iload_n 2, 1, 0, 0, 0, 0), (.iaload, 1, 0, 0, 0, 0), (.iload_n 1, 1, 0, 0, 0, 0), (.if_icmp .ne 5, 3, 22, 0, 0, 0), (.iconst 1, 1, 0, 0, 1, 0), (.ireturn, 1, 0, 0, 0, 0)]
def zb_68_22 : List zN := [(.iinc 2 1, 3, 0, 0, 1, 0), (.goto (-23), 3, 2, 0, 0, 0)]
def zb_68_28 : List zN := [(.iconst 0, 1, 0, 0, 0, 0), (.ireturn, 1, 0, 0, 0, 0)]
def zc_68 (pc : Nat) : List zN := if pc = 0 then zb_68_0 else if pc = 2 then zb_68_2 else if pc = 22 then zb_68_22 else if pc = 28 then zb_68_28 else []
def zb_69_0 : List zN := [(.aload_n 0, 1, 0, 0, 0, 0), (.getfield 9, 3, 4, 0, 0, 0), (.iload_n 1, 1, 0, 0, 0, 0), (.iaload, 1, 0, 0, 0, 0), (.iload_n 2, 1, 0, 0, 0, 0), (.iadd, 1, 0, 0, 0, 0), (.ldc 34, 2, 0, 0, 99999, 0), (.if_icmp .gt 7, 3, 17, 0, 0, 0), (.iconst 1, 1, 0, 0, 1, 0), (.goto 4, 3, 18, 0, 0, 0)]
def zb_69_17 : List zN := [(.iconst 0, 1, 0, 0, 0, 0)]
def zb_69_18 : List zN := [(.ireturn, 1, 0, 0, 0, 0)]
def zc_69 (pc : Nat) : List zN := if pc = 0 then zb_69_0 else if pc = 17 then zb_69_17 else if pc = 18 then zb_69_18 else []
def zb_70_0 : List zN := [(.iload_n 1, 1, 0, 0, 0, 0), (.iconst 0, 1, 0, 0, 0, 0), (.ldc 30, 2, 0, 0, 9999999, 0), (.invokestatic 31, 3, 71, 3, 0, 0), (.ifCond .eq 9, 3, 16, 0, 0, 0), (.aload_n 0, 1, 0, 0, 0, 0), (.iconst (-1), 1, 0, 0, (-1), 0), (.invokevirtual 35, 3, 72, 1, 0, 0), (.ireturn, 1, 0, 0, 0, 0)]
def zb_70_16 : List zN := [(.aload_n 0, 1, 0, 0, 0, 0), (.getfield 10, 3, 5, 0, 0, 0), (.getfield 39, 3, 0, 3, 0, 0), (.iconst 4, 1, 0, 0, 4, 0), (.if_icmp .lt 10, 3, 34, 0, 0, 0), (.aload_n 0, 1, 0, 0, 0, 0), (.bipush (-5), 2, 0, 0, (-5), 0), (.invokevirtual 35, 3, 72, 1, 0, 0), (.ireturn, 1, 0, 0, 0, 0)]
def zb_70_34 : List zN := [(.aload_n 0, 1, 0, 0, 0, 0), (.iconst 0, 1, 0, 0, 0, 0), (.invokevirtual 43, 3, 73, 1, 0, 0), (.aload_n 0, 1, 0, 0, 0, 0), (.aload_n 0, 1, 0, 0, 0, 0), (.getfield 10, 3, 5, 0, 0, 0), (.iload_n 1, 1, 0, 0, 0, 0), (.invokevirtual 47, 3, 2, 1, 0, 0), (.invokevirtual 50, 3, 75, 1, 0, 0), (.ireturn, 1, 0, 0, 0, 0)]
def zc_70 (pc : Nat) : List zN := if pc = 0 then zb_70_0 else if pc = 16 then zb_70_16 else if pc = 34 then zb_70_34 else []
def zb_71_0 : List zN := [(.iload_n 0, 1, 0, 0, 0, 0), (.iload_n 1, 1, 0, 0, 0, 0), (.if_icmp .lt 8, 3, 10, 0, 0, 0), (.iload_n 0, 1, 0, 0, 0, 0), (.iload_n 2, 1, 0, 0, 0, 0), (.if_icmp .le 7, 3, 14, 0, 0, 0)]
def zb_71_10 : List zN := [(.iconst 1, 1, 0, 0, 1, 0), (.goto 4, 3, 15, 0, 0, 0)]
def zb_71_14 : List zN := [(.iconst 0, 1, 0, 0, 0, 0)]
def zb_71_15 : List zN := [(.ireturn, 1, 0, 0, 0, 0)]
def zc_71 (pc : Nat) : List zN := if pc = 0 then zb_71_0 else if pc = 10 then zb_71_10 else if pc = 14 then zb_71_14 else if pc = 15 then zb_71_15 else []
def zb_72_0 : List zN := [(.aload_n 0, 1, 0, 0, 0, 0), (.iload_n 1, 1, 0, 0, 0, 0), (.putfield 263, 3, 5, 7, 0, 0), (.iload_n 1, 1, 0, 0, 0, 0), (.iconst (-1), 1, 0, 0, (-1), 0), (.if_icmp .ne 16, 3, 23, 0, 0, 0), (.aload_n 0, 1, 0, 0, 0, 0), (.dup, 1, 0, 0, 0, 0), (.getfield 388, 3, 5, 8, 0, 0), (.iconst 1, 1, 0, 0, 1, 0), (.iadd, 1, 0, 0, 0, 0), (.putfield 388, 3, 5, 8, 0, 0), (.goto 51, 3, 71, 0, 0, 0)]
def zb_72_23 : List zN := [(.iload_n 1, 1, 0, 0, 0, 0), (.bipush (-2), 2, 0, 0, (-2), 0), (.if_icmp .ne 16, 3, 42, 0, 0, 0), (.aload_n 0, 1, 0, 0, 0, 0), (.dup, 1, 0, 0, 0, 0), (.getfield 391, 3, 5, 9, 0, 0), (.iconst 1, 1, 0, 0, 1, 0), (.iadd, 1, 0, 0, 0, 0), (.putfield 391, 3, 5, 9, 0, 0), (.goto 32, 3, 71, 0, 0, 0)]
def zb_72_42 : List zN := [(.iload_n 1, 1, 0, 0, 0, 0), (.bipush (-4), 2, 0, 0, (-4), 0), (.if_icmp .ne 16, 3, 61, 0, 0, 0), (.aload_n 0, 1, 0, 0, 0, 0), (.dup, 1, 0, 0, 0, 0), (.getfield 394, 3, 5, 10, 0, 0), (.iconst 1, 1, 0, 0, 1, 0), (.iadd, 1, 0, 0, 0, 0), (.putfield 394, 3, 5, 10, 0, 0), (.goto 13, 3, 71, 0, 0, 0)]
def zb_72_61 : List zN := [(.aload_n 0, 1, 0, 0, 0, 0), (.dup, 1, 0, 0, 0, 0), (.getfield 397, 3, 5, 11, 0, 0), (.iconst 1, 1, 0, 0, 1, 0), (.iadd, 1, 0, 0, 0, 0), (.putfield 397, 3, 5, 11, 0, 0)]
def zb_72_71 : List zN := [(.iload_n 1, 1, 0, 0, 0, 0), (.ireturn, 1, 0, 0, 0, 0)]
def zc_72 (pc : Nat) : List zN := if pc = 0 then zb_72_0 else if pc = 23 then zb_72_23 else if pc = 42 then zb_72_42 else if pc = 61 then zb_72_61 else if pc = 71 then zb_72_71 else []
def zb_73_0 : List zN := [(.aload_n 0, 1, 0, 0, 0, 0), (.getfield 253, 3, 5, 6, 0, 0), (.bipush 8, 2, 0, 0, 8, 0), (.if_icmp .ne 19, 3, 25, 0, 0, 0), (.aload_n 0, 1, 0, 0, 0, 0), (.aload_n 0, 1, 0, 0, 0, 0), (.getfield 256, 3, 5, 5, 0, 0), (.iconst 1, 1, 0, 0, 1, 0), (.iadd, 1, 0, 0, 0, 0), (.bipush 8, 2, 0, 0, 8, 0), (.irem, 1, 0, 0, 0, 0), (.putfield 256, 3, 5, 5, 0, 0), (.goto 13, 3, 35, 0, 0, 0)]
def zb_73_25 : List zN := [(.aload_n 0, 1, 0, 0, 0, 0), (.dup, 1, 0, 0, 0, 0), (.getfield 253, 3, 5, 6, 0, 0), (.iconst 1, 1, 0, 0, 1, 0), (.iadd, 1, 0, 0, 0, 0), (.putfield 253, 3, 5, 6, 0, 0)]
def zb_73_35 : List zN := [(.aload_n 0, 1, 0, 0, 0, 0), (.getfield 256, 3, 5, 5, 0, 0), (.aload_n 0, 1, 0, 0, 0, 0), (.getfield 253, 3, 5, 6, 0, 0), (.iadd, 1, 0, 0, 0, 0), (.iconst 1, 1, 0, 0, 1, 0), (.isub, 1, 0, 0, 0, 0), (.bipush 8, 2, 0, 0, 8, 0), (.irem, 1, 0, 0, 0, 0), (.istore_n 2, 1, 0, 0, 0, 0), (.aload_n 0, 1, 0, 0, 0, 0), (.getfield 20, 3, 5, 3, 0, 0), (.iload_n 2, 1, 0, 0, 0, 0), (.aload_n 0, 1, 0, 0, 0, 0), (.aload_n 0, 1, 0, 0, 0, 0), (.getfield 20, 3, 5, 3, 0, 0), (.iload_n 2, 1, 0, 0, 0, 0), (.aaload, 1, 0, 0, 0, 0), (.invokevirtual 266, 3, 74, 1, 0, 0), (.aastore, 1, 0, 0, 0, 0), (.aload_n 0, 1, 0, 0, 0, 0), (.getfield 23, 3, 5, 4, 0, 0), (.iload_n 2, 1, 0, 0, 0, 0), (.iload_n 1, 1, 0, 0, 0, 0), (.iastore, 1, 0, 0, 0, 0), (.return_, 1, 0, 0, 0, 0)]
def zc_73 (pc : Nat) : List zN := if pc = 0 then zb_73_0 else if pc = 25 then zb_73_25 else if pc = 35 then zb_73_35 else []
def zb_74_0 : List zN := [(.aload_n 1, 1, 0, 0, 0, 0), (.ifnonnull 13, 3, 14, 0, 0, 0), (.new 7, 7, 0, 0, 0, 0), (.goto 4, 3, 15, 0, 0, 0)]
def zb_74_14 : List zN := [(.aload_n 1, 1, 0, 0, 0, 0)]
def zb_74_15 : List zN := [(.astore_n 2, 1, 0, 0, 0, 0), (.aload_n 2, 1, 0, 0, 0, 0), (.aload_n 0, 1, 0, 0, 0, 0), (.getfield 10, 3, 5, 0, 0, 0), (.invokevirtual 259, 3, 1, 1, 0, 0), (.aload_n 2, 1, 0, 0, 0, 0), (.areturn, 1, 0, 0, 0, 0)]
def zc_74 (pc : Nat) : List zN := if pc = 0 then zb_74_0 else if pc = 14 then zb_74_14 else if pc = 15 then zb_74_15 else []
def zb_75_0 : List zN := [(.aload_n 0, 1, 0, 0, 0, 0), (.getfield 10, 3, 5, 0, 0, 0), (.invokevirtual 341, 3, 3, 0, 0, 0), (.aload_n 0, 1, 0, 0, 0, 0), (.iconst 0, 1, 0, 0, 0, 0), (.putfield 263, 3, 5, 7, 0, 0), (.iload_n 1, 1, 0, 0, 0, 0), (.ireturn, 1, 0, 0, 0, 0)]
def zc_75 (pc : Nat) : List zN := if pc = 0 then zb_75_0 else []
def zb_76_0 : List zN := [(.iload_n 2, 1, 0, 0, 0, 0), (.iconst 0, 1, 0, 0, 0, 0), (.ldc 30, 2, 0, 0, 9999999, 0), (.invokestatic 31, 3, 71, 3, 0, 0), (.ifCond .eq 9, 3, 16, 0, 0, 0), (.aload_n 0, 1, 0, 0, 0, 0), (.iconst (-1), 1, 0, 0, (-1), 0), (.invokevirtual 35, 3, 72, 1, 0, 0), (.ireturn, 1, 0, 0, 0, 0)]
def zb_76_16 : List zN := [(.aload_n 0, 1, 0, 0, 0, 0), (.getfield 10, 3, 5, 0, 0, 0), (.iload_n 1, 1, 0, 0, 0, 0), (.invokevirtual 53, 3, 10, 1, 0, 0), (.ifCond .ne 10, 3, 34, 0, 0, 0), (.aload_n 0, 1, 0, 0, 0, 0), (.bipush (-2), 2, 0, 0, (-2), 0), (.invokevirtual 35, 3, 72, 1, 0, 0), (.ireturn, 1, 0, 0, 0, 0)]
def zb_76_34 : List zN := [(.aload_n 0, 1, 0, 0, 0, 0), (.getfield 10, 3, 5, 0, 0, 0), (.getfield 57, 3, 0, 6, 0, 0), (.iload_n 1, 1, 0, 0, 0, 0), (.aaload, 1, 0, 0, 0, 0), (.astore_n 3, 1, 0, 0, 0, 0), (.iload_n 2, 1, 0, 0, 0, 0), (.aload_n 3, 1, 0, 0, 0, 0), (.getfield 61, 3, 1, 1, 0, 0), (.aload_n 3, 1, 0, 0, 0, 0), (.getfield 66, 3, 1, 2, 0, 0), (.iadd, 1, 0, 0, 0, 0), (.if_icmp .ge 10, 3, 64, 0, 0, 0), (.aload_n 0, 1, 0, 0, 0, 0), (.bipush (-4), 2, 0, 0, (-4), 0), (.invokevirtual 35, 3, 72, 1, 0, 0), (.ireturn, 1, 0, 0, 0, 0)]
def zb_76_64 : List zN := [(.aload_n 0, 1, 0, 0, 0, 0), (.iconst 1, 1, 0, 0, 1, 0), (.invokevirtual 43, 3, 73, 1, 0, 0), (.aload_n 3, 1, 0, 0, 0, 0), (.getfield 69, 3, 1, 0, 0, 0), (.istore 4, 2, 0, 0, 0, 0), (.aload_n 3, 1, 0, 0, 0, 0), (.iload_n 2, 1, 0, 0, 0, 0), (.putfield 69, 3, 1, 0, 0, 0), (.aload_n 0, 1, 0, 0, 0, 0), (.iload 4, 2, 0, 0, 0, 0), (.invokevirtual 50, 3, 75, 1, 0, 0), (.ireturn, 1, 0, 0, 0, 0)]
def zc_76 (pc : Nat) : List zN := if pc = 0 then zb_76_0 else if pc = 16 then zb_76_16 else if pc = 34 then zb_76_34 else if pc = 64 then zb_76_64 else []
def zb_77_0 : List zN := [(.iload_n 2, 1, 0, 0, 0, 0), (.iconst 1, 1, 0, 0, 1, 0), (.ldc 30, 2, 0, 0, 9999999, 0), (.invokestatic 31, 3, 71, 3, 0, 0), (.ifCond .eq 9, 3, 16, 0, 0, 0), (.aload_n 0, 1, 0, 0, 0, 0), (.iconst (-1), 1, 0, 0, (-1), 0), (.invokevirtual 35, 3, 72, 1, 0, 0), (.ireturn, 1, 0, 0, 0, 0)]
def zb_77_16 : List zN := [(.aload_n 0, 1, 0, 0, 0, 0), (.getfield 10, 3, 5, 0, 0, 0), (.iload_n 1, 1, 0, 0, 0, 0), (.invokevirtual 53, 3, 10, 1, 0, 0), (.ifCond .ne 10, 3, 34, 0, 0, 0), (.aload_n 0, 1, 0, 0, 0, 0), (.bipush (-2), 2, 0, 0, (-2), 0), (.invokevirtual 35, 3, 72, 1, 0, 0), (.ireturn, 1, 0, 0, 0, 0)]
def zb_77_34 : List zN := [(.aload_n 0, 1, 0, 0, 0, 0), (.getfield 10, 3, 5, 0, 0, 0), (.getfield 57, 3, 0, 6, 0, 0), (.iload_n 1, 1, 0, 0, 0, 0), (.aaload, 1, 0, 0, 0, 0), (.astore_n 3, 1, 0, 0, 0, 0), (.iload_n 2, 1, 0, 0, 0, 0), (.aload_n 3, 1, 0, 0, 0, 0), (.getfield 66, 3, 1, 2, 0, 0), (.if_icmp .le 10, 3, 59, 0, 0, 0), (.aload_n 0, 1, 0, 0, 0, 0), (.bipush (-4), 2, 0, 0, (-4), 0), (.invokevirtual 35, 3, 72, 1, 0, 0), (.ireturn, 1, 0, 0, 0, 0)]
def zb_77_59 : List zN := [(.aload_n 0, 1, 0, 0, 0, 0), (.iconst 2, 1, 0, 0, 2, 0), (.invokevirtual 43, 3, 73, 1, 0, 0), (.aload_n 3, 1, 0, 0, 0, 0), (.dup, 1, 0, 0, 0, 0), (.getfield 66, 3, 1, 2, 0, 0), (.iload_n 2, 1, 0, 0, 0, 0), (.isub, 1, 0, 0, 0, 0), (.putfield 66, 3, 1, 2, 0, 0), (.aload_n 3, 1, 0, 0, 0, 0), (.dup, 1, 0, 0, 0, 0), (.getfield 72, 3, 1, 4, 0, 0), (.iload_n 2, 1, 0, 0, 0, 0), (.i2l, 1, 0, 0, 0, 0), (.ladd, 1, 0, 0, 0, 0), (.putfield 72, 3, 1, 4, 0, 0), (.aload_n 0, 1, 0, 0, 0, 0), (.aload_n 3, 1, 0, 0, 0, 0), (.getfield 66, 3, 1, 2, 0, 0), (.invokevirtual 50, 3, 75, 1, 0, 0), (.ireturn, 1, 0, 0, 0, 0)]
def zc_77 (pc : Nat) : List zN := if pc = 0 then zb_77_0 else if pc = 16 then zb_77_16 else if pc = 34 then zb_77_34 else if pc = 59 then zb_77_59 else []
def zb_78_0 : List zN := [(.aload_n 0, 1, 0, 0, 0, 0), (.getfield 10, 3, 5, 0, 0, 0), (.iload_n 1, 1, 0, 0, 0, 0), (.iload_n 2, 1, 0, 0, 0, 0), (.iload_n 3, 1, 0, 0, 0, 0), (.invokevirtual 76, 3, 11, 3, 0, 0), (.ifCond .ne 9, 3, 19, 0, 0, 0), (.aload_n 0, 1, 0, 0, 0, 0), (.iconst (-1), 1, 0, 0, (-1), 0), (.invokevirtual 35, 3, 72, 1, 0, 0), (.ireturn, 1, 0, 0, 0, 0)]
def zb_78_19 : List zN := [(.aload_n 0, 1, 0, 0, 0, 0), (.getfield 10, 3, 5, 0, 0, 0), (.getfield 79, 3, 0, 4, 0, 0), (.bipush 6, 2, 0, 0, 6, 0), (.if_icmp .lt 10, 3, 38, 0, 0, 0), (.aload_n 0, 1, 0, 0, 0, 0), (.bipush (-5), 2, 0, 0, (-5), 0), (.invokevirtual 35, 3, 72, 1, 0, 0), (.ireturn, 1, 0, 0, 0, 0)]
def zb_78_38 : List zN := [(.aload_n 0, 1, 0, 0, 0, 0), (.iconst 3, 1, 0, 0, 3, 0), (.invokevirtual 43, 3, 73, 1, 0, 0), (.aload_n 0, 1, 0, 0, 0, 0), (.aload_n 0, 1, 0, 0, 0, 0), (.getfield 10, 3, 5, 0, 0, 0), (.iload_n 1, 1, 0, 0, 0, 0), (.iload_n 2, 1, 0, 0, 0, 0), (.iload_n 3, 1, 0, 0, 0, 0), (.invokevirtual 82, 3, 14, 3, 0, 0), (.invokevirtual 50, 3, 75, 1, 0, 0), (.ireturn, 1, 0, 0, 0, 0)]
def zc_78 (pc : Nat) : List zN := if pc = 0 then zb_78_0 else if pc = 19 then zb_78_19 else if pc = 38 then zb_78_38 else []
def zb_79_0 : List zN := [(.aload_n 0, 1, 0, 0, 0, 0), (.getfield 10, 3, 5, 0, 0, 0), (.iload_n 2, 1, 0, 0, 0, 0), (.iload_n 3, 1, 0, 0, 0, 0), (.iload 4, 2, 0, 0, 0, 0), (.invokevirtual 76, 3, 11, 3, 0, 0), (.ifCond .ne 9, 3, 20, 0, 0, 0), (.aload_n 0, 1, 0, 0, 0, 0), (.iconst (-1), 1, 0, 0, (-1), 0), (.invokevirtual 35, 3, 72, 1, 0, 0), (.ireturn, 1, 0, 0, 0, 0)]
def zb_79_20 : List zN := [(.aload_n 0, 1, 0, 0, 0, 0), (.getfield 10, 3, 5, 0, 0, 0), (.iload_n 1, 1, 0, 0, 0, 0), (.invokevirtual 86, 3, 15, 1, 0, 0), (.ifCond .ne 10, 3, 38, 0, 0, 0), (.aload_n 0, 1, 0, 0, 0, 0), (.bipush (-2), 2, 0, 0, (-2), 0), (.invokevirtual 35, 3, 72, 1, 0, 0), (.ireturn, 1, 0, 0, 0, 0)]
def zb_79_38 : List zN := [(.aload_n 0, 1, 0, 0, 0, 0), (.iconst 4, 1, 0, 0, 4, 0), (.invokevirtual 43, 3, 73, 1, 0, 0), (.aload_n 0, 1, 0, 0, 0, 0), (.getfield 10, 3, 5, 0, 0, 0), (.getfield 89, 3, 0, 7, 0, 0), (.iload_n 1, 1, 0, 0, 0, 0), (.aaload, 1, 0, 0, 0, 0), (.iload_n 2, 1, 0, 0, 0, 0), (.iload_n 3, 1, 0, 0, 0, 0), (.iload 4, 2, 0, 0, 0, 0), (.invokevirtual 93, 3, 66, 3, 0, 0), (.aload_n 0, 1, 0, 0, 0, 0), (.iconst 0, 1, 0, 0, 0, 0), (.invokevirtual 50, 3, 75, 1, 0, 0), (.ireturn, 1, 0, 0, 0, 0)]
def zc_79 (pc : Nat) : List zN := if pc = 0 then zb_79_0 else if pc = 20 then zb_79_20 else if pc = 38 then zb_79_38 else []
def zb_80_0 : List zN := [(.iload_n 2, 1, 0, 0, 0, 0), (.invokestatic 99, 3, 81, 1, 0, 0), (.ifCond .eq 13, 3, 17, 0, 0, 0), (.iload_n 3, 1, 0, 0, 0, 0), (.iconst 1, 1, 0, 0, 1, 0), (.ldc 102, 2, 0, 0, 99999, 0), (.invokestatic 31, 3, 71, 3, 0, 0), (.ifCond .eq 9, 3, 23, 0, 0, 0)]
def zb_80_17 : List zN := [(.aload_n 0, 1, 0, 0, 0, 0), (.iconst (-1), 1, 0, 0, (-1), 0), (.invokevirtual 35, 3, 72, 1, 0, 0), (.ireturn, 1, 0, 0, 0, 0)]
def zb_80_23 : List zN := [(.aload_n 0, 1, 0, 0, 0, 0), (.getfield 10, 3, 5, 0, 0, 0), (.iload_n 1, 1, 0, 0, 0, 0), (.invokevirtual 86, 3, 15, 1, 0, 0), (.ifCond .ne 10, 3, 41, 0, 0, 0), (.aload_n 0, 1, 0, 0, 0, 0), (.bipush (-2), 2, 0, 0, (-2), 0), (.invokevirtual 35, 3, 72, 1, 0, 0), (.ireturn, 1, 0, 0, 0, 0)]
def zb_80_41 : List zN := [(.aload_n 0, 1, 0, 0, 0, 0), (.getfield 10, 3, 5, 0, 0, 0), (.getfield 89, 3, 0, 7, 0, 0), (.iload_n 1, 1, 0, 0, 0, 0), (.aaload, 1, 0, 0, 0, 0), (.astore 4, 2, 0, 0, 0, 0), (.aload 4, 2, 0, 0, 0, 0), (.iload_n 2, 1, 0, 0, 0, 0), (.iload_n 3, 1, 0, 0, 0, 0), (.invokevirtual 103, 3, 69, 2, 0, 0), (.ifCond .ne 10, 3, 69, 0, 0, 0), (.aload_n 0, 1, 0, 0, 0, 0), (.bipush (-4), 2, 0, 0, (-4), 0), (.invokevirtual 35, 3, 72, 1, 0, 0), (.ireturn, 1, 0, 0, 0, 0)]
def zb_80_69 : List zN := [(.aload_n 0, 1, 0, 0, 0, 0), (.iconst 5, 1, 0, 0, 5, 0), (.invokevirtual 43, 3, 73, 1, 0, 0), (.aload 4, 2, 0, 0, 0, 0), (.getfield 107, 3, 4, 0, 0, 0), (.iload_n 2, 1, 0, 0, 0, 0), (.dup2, 1, 0, 0, 0, 0), (.iaload, 1, 0, 0, 0, 0), (.iload_n 3, 1, 0, 0, 0, 0), (.iadd, 1, 0, 0, 0, 0), (.iastore, 1, 0, 0, 0, 0), (.aload_n 0, 1, 0, 0, 0, 0), (.aload 4, 2, 0, 0, 0, 0), (.getfield 107, 3, 4, 0, 0, 0), (.iload_n 2, 1, 0, 0, 0, 0), (.iaload, 1, 0, 0, 0, 0), (.invokevirtual 50, 3, 75, 1, 0, 0), (.ireturn, 1, 0, 0, 0, 0)]
def zc_80 (pc : Nat) : List zN := if pc = 0 then zb_80_0 else if pc = 17 then zb_80_17 else if pc = 23 then zb_80_23 else if pc = 41 then zb_80_41 else if pc = 69 then zb_80_69 else []
def zb_81_0 : List zN := [(.iload_n 0, 1, 0, 0, 0, 0), (.ifCond .lt 12, 3, 13, 0, 0, 0), (.iload_n 0, 1, 0, 0, 0, 0), (.iconst 5, 1, 0, 0, 5, 0), (.if_icmp .ge 7, 3, 13, 0, 0, 0), (.iconst 1, 1, 0, 0, 1, 0), (.goto 4, 3, 14, 0, 0, 0)]
def zb_81_13 : List zN := [(.iconst 0, 1, 0, 0, 0, 0)]
def zb_81_14 : List zN := [(.ireturn, 1, 0, 0, 0, 0)]
def zc_81 (pc : Nat) : List zN := if pc = 0 then zb_81_0 else if pc = 13 then zb_81_13 else if pc = 14 then zb_81_14 else []
def zb_82_0 : List zN := [(.iload_n 1, 1, 0, 0, 0, 0), (.invokestatic 99, 3, 81, 1, 0, 0), (.ifCond .eq 32, 3, 36, 0, 0, 0), (.iload_n 2, 1, 0, 0, 0, 0), (.iconst 0, 1, 0, 0, 0, 0), (.iconst 1, 1, 0, 0, 1, 0), (.invokestatic 31, 3, 71, 3, 0, 0), (.ifCond .ne 23, 3, 36, 0, 0, 0), (.iload_n 3, 1, 0, 0, 0, 0), (.iconst 0, 1, 0, 0, 0, 0), (.iload_n 2, 1, 0, 0, 0, 0), (.ifCond .ne 8, 3, 27, 0, 0, 0), (.bipush 99, 2, 0, 0, 99, 0), (.goto 6, 3, 30, 0, 0, 0)]
def zb_82_27 : List zN := [(.sipush 999, 3, 0, 0, 999, 0)]
def zb_82_30 : List zN := [(.invokestatic 31, 3, 71, 3, 0, 0), (.ifCond .eq 9, 3, 42, 0, 0, 0)]
def zb_82_36 : List zN := [(.aload_n 0, 1, 0, 0, 0, 0), (.iconst (-1), 1, 0, 0, (-1), 0), (.invokevirtual 35, 3, 72, 1, 0, 0), (.ireturn, 1, 0, 0, 0, 0)]
def zb_82_42 : List zN := [(.aload_n 0, 1, 0, 0, 0, 0), (.bipush 6, 2, 0, 0, 6, 0), (.invokevirtual 43, 3, 73, 1, 0, 0), (.aload_n 0, 1, 0, 0, 0, 0), (.getfield 10, 3, 5, 0, 0, 0), (.getfield 110, 3, 0, 8, 0, 0), (.iload_n 1, 1, 0, 0, 0, 0), (.aaload, 1, 0, 0, 0, 0), (.astore 4, 2, 0, 0, 0, 0), (.iload_n 2, 1, 0, 0, 0, 0), (.ifCond .ne 19, 3, 79, 0, 0, 0), (.aload 4, 2, 0, 0, 0, 0), (.getfield 114, 3, 2, 3, 0, 0), (.istore 5, 2, 0, 0, 0, 0), (.aload 4, 2, 0, 0, 0, 0), (.iload_n 3, 1, 0, 0, 0, 0), (.putfield 114, 3, 2, 3, 0, 0), (.goto 16, 3, 92, 0, 0, 0)]
def zb_82_79 : List zN := [(.aload 4, 2, 0, 0, 0, 0), (.getfield 119, 3, 2, 4, 0, 0), (.istore 5, 2, 0, 0, 0, 0), (.aload 4, 2, 0, 0, 0, 0), (.iload_n 3, 1, 0, 0, 0, 0), (.putfield 119, 3, 2, 4, 0, 0)]
def zb_82_92 : List zN := [(.aload_n 0, 1, 0, 0, 0, 0), (.iload 5, 2, 0, 0, 0, 0), (.invokevirtual 50, 3, 75, 1, 0, 0), (.ireturn, 1, 0, 0, 0, 0)]
def zc_82 (pc : Nat) : List zN := if pc = 0 then zb_82_0 else if pc = 27 then zb_82_27 else if pc = 30 then zb_82_30 else if pc = 36 then zb_82_36 else if pc = 42 then zb_82_42 else if pc = 79 then zb_82_79 else if pc = 92 then zb_82_92 else []
def zb_83_0 : List zN := [(.iload_n 1, 1, 0, 0, 0, 0), (.invokestatic 99, 3, 81, 1, 0, 0), (.ifCond .eq 25, 3, 29, 0, 0, 0), (.iload_n 2, 1, 0, 0, 0, 0), (.iconst 0, 1, 0, 0, 0, 0), (.sipush 9999, 3, 0, 0, 9999, 0), (.invokestatic 31, 3, 71, 3, 0, 0), (.ifCond .ne 14, 3, 29, 0, 0, 0), (.iload_n 3, 1, 0, 0, 0, 0), (.iconst 0, 1, 0, 0, 0, 0), (.sipush 999, 3, 0, 0, 999, 0), (.invokestatic 31, 3, 71, 3, 0, 0), (.ifCond .eq 9, 3, 35, 0, 0, 0)]
def zb_83_29 : List zN := [(.aload_n 0, 1, 0, 0, 0, 0), (.iconst (-1), 1, 0, 0, (-1), 0), (.invokevirtual 35, 3, 72, 1, 0, 0), (.ireturn, 1, 0, 0, 0, 0)]
def zb_83_35 : List zN := [(.iload_n 2, 1, 0, 0, 0, 0), (.aload_n 0, 1, 0, 0, 0, 0), (.getfield 10, 3, 5, 0, 0, 0), (.getfield 122, 3, 0, 0, 0, 0), (.if_icmp .gt 13, 3, 56, 0, 0, 0), (.aload_n 0, 1, 0, 0, 0, 0), (.getfield 10, 3, 5, 0, 0, 0), (.getfield 122, 3, 0, 0, 0, 0), (.ifCond .ne 7, 3, 60, 0, 0, 0)]
def zb_83_56 : List zN := [(.iconst 1, 1, 0, 0, 1, 0), (.goto 4, 3, 61, 0, 0, 0)]
def zb_83_60 : List zN := [(.iconst 0, 1, 0, 0, 0, 0)]
def zb_83_61 : List zN := [(.istore 4, 2, 0, 0, 0, 0), (.iload 4, 2, 0, 0, 0, 0), (.ifCond .eq 16, 3, 81, 0, 0, 0), (.aload_n 0, 1, 0, 0, 0, 0), (.invokevirtual 125, 3, 84, 0, 0, 0), (.iload_n 1, 1, 0, 0, 0, 0), (.iload_n 2, 1, 0, 0, 0, 0), (.iload_n 3, 1, 0, 0, 0, 0), (.invokevirtual 129, 3, 16, 3, 0, 0), (.ifCond .ne 10, 3, 88, 0, 0, 0)]
def zb_83_81 : List zN := [(.aload_n 0, 1, 0, 0, 0, 0), (.bipush (-4), 2, 0, 0, (-4), 0), (.invokevirtual 35, 3, 72, 1, 0, 0), (.ireturn, 1, 0, 0, 0, 0)]
def zb_83_88 : List zN := [(.aload_n 0, 1, 0, 0, 0, 0), (.getfield 10, 3, 5, 0, 0, 0), (.getfield 110, 3, 0, 8, 0, 0), (.iload_n 1, 1, 0, 0, 0, 0), (.aaload, 1, 0, 0, 0, 0), (.astore 5, 2, 0, 0, 0, 0), (.aload 5, 2, 0, 0, 0, 0), (.iload_n 2, 1, 0, 0, 0, 0), (.invokevirtual 132, 3, 53, 1, 0, 0), (.ifCond .ne 20, 3, 125, 0, 0, 0), (.aload 5, 2, 0, 0, 0, 0), (.getfield 135, 3, 2, 2, 0, 0), (.bipush 12, 2, 0, 0, 12, 0), (.if_icmp .lt 10, 3, 125, 0, 0, 0), (.aload_n 0, 1, 0, 0, 0, 0), (.bipush (-5), 2, 0, 0, (-5), 0), (.invokevirtual 35, 3, 72, 1, 0, 0), (.ireturn, 1, 0, 0, 0, 0)]
def zb_83_125 : List zN := [(.aload_n 0, 1, 0, 0, 0, 0), (.bipush 7, 2, 0, 0, 7, 0), (.invokevirtual 43, 3, 73, 1, 0, 0), (.aload 5, 2, 0, 0, 0, 0), (.iload_n 2, 1, 0, 0, 0, 0), (.invokevirtual 138, 3, 54, 1, 0, 0), (.istore 6, 2, 0, 0, 0, 0), (.aload_n 0, 1, 0, 0, 0, 0), (.getfield 10, 3, 5, 0, 0, 0), (.iload_n 1, 1, 0, 0, 0, 0), (.iload_n 2, 1, 0, 0, 0, 0), (.iload_n 3, 1, 0, 0, 0, 0), (.invokevirtual 129, 3, 16, 3, 0, 0), (.pop, 1, 0, 0, 0, 0), (.aload_n 0, 1, 0, 0, 0, 0), (.iload 6, 2, 0, 0, 0, 0), (.invokevirtual 50, 3, 75, 1, 0, 0), (.ireturn, 1, 0, 0, 0, 0)]
def zc_83 (pc : Nat) : List zN := if pc = 0 then zb_83_0 else if pc = 29 then zb_83_29 else if pc = 35 then zb_83_35 else if pc = 56 then zb_83_56 else if pc = 60 then zb_83_60 else if pc = 61 then zb_83_61 else if pc = 81 then zb_83_81 else if pc = 88 then zb_83_88 else if pc = 125 then zb_83_125 else []
def zb_84_0 : List zN := [(.aload_n 0, 1, 0, 0, 0, 0), (.aload_n 0, 1, 0, 0, 0, 0), (.aload_n 0, 1, 0, 0, 0, 0), (.getfield 400, 3, 5, 1, 0, 0), (.invokevirtual 266, 3, 74, 1, 0, 0), (.putfield 400, 3, 5, 1, 0, 0), (.aload_n 0, 1, 0, 0, 0, 0), (.getfield 400, 3, 5, 1, 0, 0), (.areturn, 1, 0, 0, 0, 0)]
def zc_84 (pc : Nat) : List zN := if pc = 0 then zb_84_0 else []
def zb_85_0 : List zN := [(.iload_n 1, 1, 0, 0, 0, 0), (.iconst 0, 1, 0, 0, 0, 0), (.iconst 1, 1, 0, 0, 1, 0), (.invokestatic 31, 3, 71, 3, 0, 0), (.ifCond .ne 21, 3, 27, 0, 0, 0), (.iload_n 2, 1, 0, 0, 0, 0), (.iconst 0, 1, 0, 0, 0, 0), (.iload_n 1, 1, 0, 0, 0, 0), (.ifCond .ne 8, 3, 20, 0, 0, 0), (.bipush 60, 2, 0, 0, 60, 0), (.goto 4, 3, 21, 0, 0, 0)]
def zb_85_20 : List zN := [(.iconst 1, 1, 0, 0, 1, 0)]
def zb_85_21 : List zN := [(.invokestatic 31, 3, 71, 3, 0, 0), (.ifCond .eq 9, 3, 33, 0, 0, 0)]
def zb_85_27 : List zN := [(.aload_n 0, 1, 0, 0, 0, 0), (.iconst (-1), 1, 0, 0, (-1), 0), (.invokevirtual 35, 3, 72, 1, 0, 0), (.ireturn, 1, 0, 0, 0, 0)]
def zb_85_33 : List zN := [(.aload_n 0, 1, 0, 0, 0, 0), (.bipush 8, 2, 0, 0, 8, 0), (.invokevirtual 43, 3, 73, 1, 0, 0), (.iload_n 1, 1, 0, 0, 0, 0), (.ifCond .ne 22, 3, 62, 0, 0, 0), (.aload_n 0, 1, 0, 0, 0, 0), (.getfield 10, 3, 5, 0, 0, 0), (.getfield 141, 3, 0, 1, 0, 0), (.istore_n 3, 1, 0, 0, 0, 0), (.aload_n 0, 1, 0, 0, 0, 0), (.getfield 10, 3, 5, 0, 0, 0), (.iload_n 2, 1, 0, 0, 0, 0), (.putfield 141, 3, 0, 1, 0, 0), (.goto 19, 3, 78, 0, 0, 0)]
def zb_85_62 : List zN := [(.aload_n 0, 1, 0, 0, 0, 0), (.getfield 10, 3, 5, 0, 0, 0), (.getfield 144, 3, 0, 2, 0, 0), (.istore_n 3, 1, 0, 0, 0, 0), (.aload_n 0, 1, 0, 0, 0, 0), (.getfield 10, 3, 5, 0, 0, 0), (.iload_n 2, 1, 0, 0, 0, 0), (.putfield 144, 3, 0, 2, 0, 0)]
def zb_85_78 : List zN := [(.aload_n 0, 1, 0, 0, 0, 0), (.iload_n 3, 1, 0, 0, 0, 0), (.invokevirtual 50, 3, 75, 1, 0, 0), (.ireturn, 1, 0, 0, 0, 0)]
def zc_85 (pc : Nat) : List zN := if pc = 0 then zb_85_0 else if pc = 20 then zb_85_20 else if pc = 21 then zb_85_21 else if pc = 27 then zb_85_27 else if pc = 33 then zb_85_33 else if pc = 62 then zb_85_62 else if pc = 78 then zb_85_78 else []
def zb_86_0 : List zN := [(.iload_n 3, 1, 0, 0, 0, 0), (.invokestatic 99, 3, 81, 1, 0, 0), (.ifCond .eq 37, 3, 41, 0, 0, 0), (.iload 4, 2, 0, 0, 0, 0), (.iconst 1, 1, 0, 0, 1, 0), (.sipush 9999, 3, 0, 0, 9999, 0), (.invokestatic 31, 3, 71, 3, 0, 0), (.ifCond .ne 25, 3, 41, 0, 0, 0), (.iload 5, 2, 0, 0, 0, 0), (.iconst 1, 1, 0, 0, 1, 0), (.bipush 90, 2, 0, 0, 90, 0), (.invokestatic 31, 3, 71, 3, 0, 0), (.ifCond .ne 14, 3, 41, 0, 0, 0), (.iload 6, 2, 0, 0, 0, 0), (.iconst 0, 1, 0, 0, 0, 0), (.bipush 9, 2, 0, 0, 9, 0), (.invokestatic 31, 3, 71, 3, 0, 0), (.ifCond .eq 9, 3, 47, 0, 0, 0)]
def zb_86_41 : List zN := [(.aload_n 0, 1, 0, 0, 0, 0), (.iconst (-1), 1, 0, 0, (-1), 0), (.invokevirtual 35, 3, 72, 1, 0, 0), (.ireturn, 1, 0, 0, 0, 0)]
def zb_86_47 : List zN := [(.aload_n 0, 1, 0, 0, 0, 0), (.getfield 10, 3, 5, 0, 0, 0), (.iload_n 1, 1, 0, 0, 0, 0), (.invokevirtual 86, 3, 15, 1, 0, 0), (.ifCond .eq 14, 3, 69, 0, 0, 0), (.aload_n 0, 1, 0, 0, 0, 0), (.getfield 10, 3, 5, 0, 0, 0), (.iload_n 2, 1, 0, 0, 0, 0), (.invokevirtual 86, 3, 15, 1, 0, 0), (.ifCond .ne 10, 3, 76, 0, 0, 0)]
def zb_86_69 : List zN := [(.aload_n 0, 1, 0, 0, 0, 0), (.bipush (-2), 2, 0, 0, (-2), 0), (.invokevirtual 35, 3, 72, 1, 0, 0), (.ireturn, 1, 0, 0, 0, 0)]
def zb_86_76 : List zN := [(.aload_n 0, 1, 0, 0, 0, 0), (.getfield 10, 3, 5, 0, 0, 0), (.getfield 89, 3, 0, 7, 0, 0), (.iload_n 1, 1, 0, 0, 0, 0), (.aaload, 1, 0, 0, 0, 0), (.astore 7, 2, 0, 0, 0, 0), (.iload_n 1, 1, 0, 0, 0, 0), (.iload_n 2, 1, 0, 0, 0, 0), (.if_icmp .eq 15, 3, 104, 0, 0, 0), (.aload 7, 2, 0, 0, 0, 0), (.getfield 107, 3, 4, 0, 0, 0), (.iload_n 3, 1, 0, 0, 0, 0), (.iaload, 1, 0, 0, 0, 0), (.iload 4, 2, 0, 0, 0, 0), (.if_icmp .ge 10, 3, 111, 0, 0, 0)]
def zb_86_104 : List zN := [(.aload_n 0, 1, 0, 0, 0, 0), (.bipush (-4), 2, 0, 0, (-4), 0), (.invokevirtual 35, 3, 72, 1, 0, 0), (.ireturn, 1, 0, 0, 0, 0)]
def zb_86_111 : List zN := [(.aload_n 0, 1, 0, 0, 0, 0), (.getfield 10, 3, 5, 0, 0, 0), (.getfield 147, 3, 0, 5, 0, 0), (.bipush 40, 2, 0, 0, 40, 0), (.if_icmp .lt 10, 3, 130, 0, 0, 0), (.aload_n 0, 1, 0, 0, 0, 0), (.bipush (-5), 2, 0, 0, (-5), 0), (.invokevirtual 35, 3, 72, 1, 0, 0), (.ireturn, 1, 0, 0, 0, 0)]
def zb_86_130 : List zN := [(.aload_n 0, 1, 0, 0, 0, 0), (.bipush 9, 2, 0, 0, 9, 0), (.invokevirtual 43, 3, 73, 1, 0, 0), (.aload 7, 2, 0, 0, 0, 0), (.getfield 107, 3, 4, 0, 0, 0), (.iload_n 3, 1, 0, 0, 0, 0), (.dup2, 1, 0, 0, 0, 0), (.iaload, 1, 0, 0, 0, 0), (.iload 4, 2, 0, 0, 0, 0), (.isub, 1, 0, 0, 0, 0), (.iastore, 1, 0, 0, 0, 0), (.aload_n 0, 1, 0, 0, 0, 0), (.getfield 10, 3, 5, 0, 0, 0), (.getfield 147, 3, 0, 5, 0, 0), (.istore 8, 2, 0, 0, 0, 0), (.aload_n 0, 1, 0, 0, 0, 0), (.getfield 10, 3, 5, 0, 0, 0), (.getfield 150, 3, 0, 9, 0, 0), (.iload 8, 2, 0, 0, 0, 0), (.aaload, 1, 0, 0, 0, 0), (.astore 9, 2, 0, 0, 0, 0), (.aload 9, 2, 0, 0, 0, 0), (.iload_n 1, 1, 0, 0, 0, 0), (.iload_n 2, 1, 0, 0, 0, 0), (.iload_n 3, 1, 0, 0, 0, 0), (.iload 4, 2, 0, 0, 0, 0), (.invokevirtual 154, 3, 62, 4, 0, 0), (.aload 9, 2, 0, 0, 0, 0), (.iload 5, 2, 0, 0, 0, 0), (.putfield 160, 3, 3, 5, 0, 0), (.aload 9, 2, 0, 0, 0, 0), (.iload 6, 2, 0, 0, 0, 0), (.putfield 163, 3, 3, 6, 0, 0), (.aload_n 0, 1, 0, 0, 0, 0), (.getfield 10, 3, 5, 0, 0, 0), (.dup, 1, 0, 0, 0, 0), (.getfield 147, 3, 0, 5, 0, 0), (.iconst 1, 1, 0, 0, 1, 0), (.iadd, 1, 0, 0, 0, 0), (.putfield 147, 3, 0, 5, 0, 0), (.aload_n 0, 1, 0, 0, 0, 0), (.iload 8, 2, 0, 0, 0, 0), (.invokevirtual 50, 3, 75, 1, 0, 0), (.ireturn, 1, 0, 0, 0, 0)]
def zc_86 (pc : Nat) : List zN := if pc = 0 then zb_86_0 else if pc = 41 then zb_86_41 else if pc = 47 then zb_86_47 else if pc = 69 then zb_86_69 else if pc = 76 then zb_86_76 else if pc = 104 then zb_86_104 else if pc = 111 then zb_86_111 else if pc = 130 then zb_86_130 else []
def zb_87_0 : List zN := [(.aload_n 0, 1, 0, 0, 0, 0), (.getfield 10, 3, 5, 0, 0, 0), (.iload_n 1, 1, 0, 0, 0, 0), (.invokevirtual 166, 3, 19, 1, 0, 0), (.ifCond .ne 10, 3, 18, 0, 0, 0), (.aload_n 0, 1, 0, 0, 0, 0), (.bipush (-2), 2, 0, 0, (-2), 0), (.invokevirtual 35, 3, 72, 1, 0, 0), (.ireturn, 1, 0, 0, 0, 0)]
def zb_87_18 : List zN := [(.aload_n 0, 1, 0, 0, 0, 0), (.getfield 10, 3, 5, 0, 0, 0), (.getfield 150, 3, 0, 9, 0, 0), (.iload_n 1, 1, 0, 0, 0, 0), (.aaload, 1, 0, 0, 0, 0), (.astore_n 2, 1, 0, 0, 0, 0), (.aload_n 0, 1, 0, 0, 0, 0), (.getfield 10, 3, 5, 0, 0, 0), (.getfield 89, 3, 0, 7, 0, 0), (.aload_n 2, 1, 0, 0, 0, 0), (.getfield 169, 3, 3, 1, 0, 0), (.aaload, 1, 0, 0, 0, 0), (.astore_n 3, 1, 0, 0, 0, 0), (.aload_n 2, 1, 0, 0, 0, 0), (.getfield 172, 3, 3, 0, 0, 0), (.ifCond .ne 18, 3, 63, 0, 0, 0), (.aload_n 3, 1, 0, 0, 0, 0), (.aload_n 2, 1, 0, 0, 0, 0), (.getfield 175, 3, 3, 3, 0, 0), (.aload_n 2, 1, 0, 0, 0, 0), (.getfield 178, 3, 3, 4, 0, 0), (.invokevirtual 103, 3, 69, 2, 0, 0), (.ifCond .ne 10, 3, 70, 0, 0, 0)]
def zb_87_63 : List zN := [(.aload_n 0, 1, 0, 0, 0, 0), (.bipush (-4), 2, 0, 0, (-4), 0), (.invokevirtual 35, 3, 72, 1, 0, 0), (.ireturn, 1, 0, 0, 0, 0)]
def zb_87_70 : List zN := [(.aload_n 0, 1, 0, 0, 0, 0), (.bipush 10, 2, 0, 0, 10, 0), (.invokevirtual 43, 3, 73, 1, 0, 0), (.aload_n 2, 1, 0, 0, 0, 0), (.iconst 4, 1, 0, 0, 4, 0), (.putfield 172, 3, 3, 0, 0, 0), (.aload_n 3, 1, 0, 0, 0, 0), (.getfield 107, 3, 4, 0, 0, 0), (.aload_n 2, 1, 0, 0, 0, 0), (.getfield 175, 3, 3, 3, 0, 0), (.dup2, 1, 0, 0, 0, 0), (.iaload, 1, 0, 0, 0, 0), (.aload_n 2, 1, 0, 0, 0, 0), (.getfield 178, 3, 3, 4, 0, 0), (.iadd, 1, 0, 0, 0, 0), (.iastore, 1, 0, 0, 0, 0), (.aload_n 0, 1, 0, 0, 0, 0), (.iconst 0, 1, 0, 0, 0, 0), (.invokevirtual 50, 3, 75, 1, 0, 0), (.pop, 1, 0, 0, 0, 0), (.aload_n 0, 1, 0, 0, 0, 0), (.getfield 10, 3, 5, 0, 0, 0), (.iconst 0, 1, 0, 0, 0, 0), (.invokevirtual 181, 3, 20, 1, 0, 0), (.ireturn, 1, 0, 0, 0, 0)]
def zc_87 (pc : Nat) : List zN := if pc = 0 then zb_87_0 else if pc = 18 then zb_87_18 else if pc = 63 then zb_87_63 else if pc = 70 then zb_87_70 else []
def zb_88_0 : List zN := [(.iload_n 2, 1, 0, 0, 0, 0), (.iconst 0, 1, 0, 0, 0, 0), (.sipush 9999, 3, 0, 0, 9999, 0), (.invokestatic 31, 3, 71, 3, 0, 0), (.ifCond .ne 19, 3, 27, 0, 0, 0), (.iload_n 3, 1, 0, 0, 0, 0), (.ifCond .eq 21, 3, 33, 0, 0, 0), (.iload 4, 2, 0, 0, 0, 0), (.iconst 0, 1, 0, 0, 0, 0), (.sipush 9999, 3, 0, 0, 9999, 0), (.invokestatic 31, 3, 71, 3, 0, 0), (.ifCond .eq 9, 3, 33, 0, 0, 0)]
def zb_88_27 : List zN := [(.aload_n 0, 1, 0, 0, 0, 0), (.iconst (-1), 1, 0, 0, (-1), 0), (.invokevirtual 35, 3, 72, 1, 0, 0), (.ireturn, 1, 0, 0, 0, 0)]
def zb_88_33 : List zN := [(.aload_n 0, 1, 0, 0, 0, 0), (.getfield 10, 3, 5, 0, 0, 0), (.iload_n 1, 1, 0, 0, 0, 0), (.invokevirtual 166, 3, 19, 1, 0, 0), (.ifCond .ne 10, 3, 51, 0, 0, 0), (.aload_n 0, 1, 0, 0, 0, 0), (.bipush (-2), 2, 0, 0, (-2), 0), (.invokevirtual 35, 3, 72, 1, 0, 0), (.ireturn, 1, 0, 0, 0, 0)]
def zb_88_51 : List zN := [(.aload_n 0, 1, 0, 0, 0, 0), (.getfield 10, 3, 5, 0, 0, 0), (.getfield 150, 3, 0, 9, 0, 0), (.iload_n 1, 1, 0, 0, 0, 0), (.aaload, 1, 0, 0, 0, 0), (.astore 5, 2, 0, 0, 0, 0), (.aload_n 0, 1, 0, 0, 0, 0), (.aload 5, 2, 0, 0, 0, 0), (.iload_n 2, 1, 0, 0, 0, 0), (.iload_n 3, 1, 0, 0, 0, 0), (.invokevirtual 184, 3, 89, 3, 0, 0), (.ifCond .eq 21, 3, 91, 0, 0, 0), (.iload_n 3, 1, 0, 0, 0, 0), (.ifCond .eq 24, 3, 98, 0, 0, 0), (.aload_n 0, 1, 0, 0, 0, 0), (.getfield 10, 3, 5, 0, 0, 0), (.aload 5, 2, 0, 0, 0, 0), (.iload 4, 2, 0, 0, 0, 0), (.invokevirtual 188, 3, 21, 2, 0, 0), (.ifCond .ne 10, 3, 98, 0, 0, 0)]
def zb_88_91 : List zN := [(.aload_n 0, 1, 0, 0, 0, 0), (.bipush (-4), 2, 0, 0, (-4), 0), (.invokevirtual 35, 3, 72, 1, 0, 0), (.ireturn, 1, 0, 0, 0, 0)]
def zb_88_98 : List zN := [(.aload_n 0, 1, 0, 0, 0, 0), (.bipush 11, 2, 0, 0, 11, 0), (.invokevirtual 43, 3, 73, 1, 0, 0), (.aload_n 0, 1, 0, 0, 0, 0), (.getfield 10, 3, 5, 0, 0, 0), (.aload 5, 2, 0, 0, 0, 0), (.iload_n 2, 1, 0, 0, 0, 0), (.invokevirtual 192, 3, 23, 2, 0, 0), (.iload_n 3, 1, 0, 0, 0, 0), (.ifCond .ne 11, 3, 126, 0, 0, 0), (.aload 5, 2, 0, 0, 0, 0), (.invokevirtual 196, 3, 59, 0, 0, 0), (.ifCond .ne 15, 3, 138, 0, 0, 0)]
def zb_88_126 : List zN := [(.aload_n 0, 1, 0, 0, 0, 0), (.getfield 10, 3, 5, 0, 0, 0), (.aload 5, 2, 0, 0, 0, 0), (.iconst 2, 1, 0, 0, 2, 0), (.iload 4, 2, 0, 0, 0, 0), (.invokevirtual 200, 3, 24, 3, 0, 0)]
def zb_88_138 : List zN := [(.aload_n 0, 1, 0, 0, 0, 0), (.aload 5, 2, 0, 0, 0, 0), (.invokevirtual 196, 3, 59, 0, 0, 0), (.invokevirtual 50, 3, 75, 1, 0, 0), (.ireturn, 1, 0, 0, 0, 0)]
def zc_88 (pc : Nat) : List zN := if pc = 0 then zb_88_0 else if pc = 27 then zb_88_27 else if pc = 33 then zb_88_33 else if pc = 51 then zb_88_51 else if pc = 91 then zb_88_91 else if pc = 98 then zb_88_98 else if pc = 126 then zb_88_126 else if pc = 138 then zb_88_138 else []
def zb_89_0 : List zN := [(.aload_n 1, 1, 0, 0, 0, 0), (.getfield 172, 3, 3, 0, 0, 0), (.iconst 1, 1, 0, 0, 1, 0), (.if_icmp .ne 46, 3, 51, 0, 0, 0), (.iload_n 2, 1, 0, 0, 0, 0), (.aload_n 1, 1, 0, 0, 0, 0), (.invokevirtual 196, 3, 59, 0, 0, 0), (.if_icmp .gt 38, 3, 51, 0, 0, 0), (.iload_n 2, 1, 0, 0, 0, 0), (.ifCond .gt 7, 3, 24, 0, 0, 0), (.iload_n 3, 1, 0, 0, 0, 0), (.ifCond .eq 30, 3, 51, 0, 0, 0)]
def zb_89_24 : List zN := [(.aload_n 0, 1, 0, 0, 0, 0), (.getfield 10, 3, 5, 0, 0, 0), (.getfield 89, 3, 0, 7, 0, 0), (.aload_n 1, 1, 0, 0, 0, 0), (.getfield 204, 3, 3, 2, 0, 0), (.aaload, 1, 0, 0, 0, 0), (.aload_n 1, 1, 0, 0, 0, 0), (.getfield 175, 3, 3, 3, 0, 0), (.iload_n 2, 1, 0, 0, 0, 0), (.invokevirtual 103, 3, 69, 2, 0, 0), (.ifCond .eq 7, 3, 51, 0, 0, 0), (.iconst 1, 1, 0, 0, 1, 0), (.goto 4, 3, 52, 0, 0, 0)]
def zb_89_51 : List zN := [(.iconst 0, 1, 0, 0, 0, 0)]
def zb_89_52 : List zN := [(.ireturn, 1, 0, 0, 0, 0)]
def zc_89 (pc : Nat) : List zN := if pc = 0 then zb_89_0 else if pc = 24 then zb_89_24 else if pc = 51 then zb_89_51 else if pc = 52 then zb_89_52 else []
def zb_90_0 : List zN := [(.iload_n 2, 1, 0, 0, 0, 0), (.invokestatic 99, 3, 81, 1, 0, 0), (.ifCond .eq 13, 3, 17, 0, 0, 0), (.iload_n 3, 1, 0, 0, 0, 0), (.iconst 1, 1, 0, 0, 1, 0), (.ldc 102, 2, 0, 0, 99999, 0), (.invokestatic 31, 3, 71, 3, 0, 0), (.ifCond .eq 9, 3, 23, 0, 0, 0)]
def zb_90_17 : List zN := [(.aload_n 0, 1, 0, 0, 0, 0), (.iconst (-1), 1, 0, 0, (-1), 0), (.invokevirtual 35, 3, 72, 1, 0, 0), (.ireturn, 1, 0, 0, 0, 0)]
def zb_90_23 : List zN := [(.aload_n 0, 1, 0, 0, 0, 0), (.getfield 10, 3, 5, 0, 0, 0), (.iload_n 1, 1, 0, 0, 0, 0), (.invokevirtual 86, 3, 15, 1, 0, 0), (.ifCond .ne 10, 3, 41, 0, 0, 0), (.aload_n 0, 1, 0, 0, 0, 0), (.bipush (-2), 2, 0, 0, (-2), 0), (.invokevirtual 35, 3, 72, 1, 0, 0), (.ireturn, 1, 0, 0, 0, 0)]
def zb_90_41 : List zN := [(.aload_n 0, 1, 0, 0, 0, 0), (.getfield 10, 3, 5, 0, 0, 0), (.iload_n 1, 1, 0, 0, 0, 0), (.iload_n 2, 1, 0, 0, 0, 0), (.invokevirtual 207, 3, 28, 2, 0, 0), (.iload_n 3, 1, 0, 0, 0, 0), (.if_icmp .lt 20, 3, 71, 0, 0, 0), (.aload_n 0, 1, 0, 0, 0, 0), (.getfield 10, 3, 5, 0, 0, 0), (.getfield 89, 3, 0, 7, 0, 0), (.iload_n 1, 1, 0, 0, 0, 0), (.aaload, 1, 0, 0, 0, 0), (.iload_n 2, 1, 0, 0, 0, 0), (.iload_n 3, 1, 0, 0, 0, 0), (.invokevirtual 103, 3, 69, 2, 0, 0), (.ifCond .ne 10, 3, 78, 0, 0, 0)]
def zb_90_71 : List zN := [(.aload_n 0, 1, 0, 0, 0, 0), (.bipush (-4), 2, 0, 0, (-4), 0), (.invokevirtual 35, 3, 72, 1, 0, 0), (.ireturn, 1, 0, 0, 0, 0)]
def zb_90_78 : List zN := [(.aload_n 0, 1, 0, 0, 0, 0), (.bipush 12, 2, 0, 0, 12, 0), (.invokevirtual 43, 3, 73, 1, 0, 0), (.aload_n 0, 1, 0, 0, 0, 0), (.aload_n 0, 1, 0, 0, 0, 0), (.getfield 10, 3, 5, 0, 0, 0), (.iload_n 1, 1, 0, 0, 0, 0), (.iload_n 2, 1, 0, 0, 0, 0), (.iload_n 3, 1, 0, 0, 0, 0), (.invokevirtual 211, 3, 30, 3, 0, 0), (.invokevirtual 50, 3, 75, 1, 0, 0), (.ireturn, 1, 0, 0, 0, 0)]
def zc_90 (pc : Nat) : List zN := if pc = 0 then zb_90_0 else if pc = 17 then zb_90_17 else if pc = 23 then zb_90_23 else if pc = 41 then zb_90_41 else if pc = 71 then zb_90_71 else if pc = 78 then zb_90_78 else []
def zb_91_0 : List zN := [(.iload_n 2, 1, 0, 0, 0, 0), (.iconst 1, 1, 0, 0, 1, 0), (.sipush 9999, 3, 0, 0, 9999, 0), (.invokestatic 31, 3, 71, 3, 0, 0), (.ifCond .eq 9, 3, 17, 0, 0, 0), (.aload_n 0, 1, 0, 0, 0, 0), (.iconst (-1), 1, 0, 0, (-1), 0), (.invokevirtual 35, 3, 72, 1, 0, 0), (.ireturn, 1, 0, 0, 0, 0)]
def zb_91_17 : List zN := [(.aload_n 0, 1, 0, 0, 0, 0), (.getfield 10, 3, 5, 0, 0, 0), (.iload_n 1, 1, 0, 0, 0, 0), (.invokevirtual 166, 3, 19, 1, 0, 0), (.ifCond .eq 14, 3, 39, 0, 0, 0), (.aload_n 0, 1, 0, 0, 0, 0), (.getfield 10, 3, 5, 0, 0, 0), (.iload_n 3, 1, 0, 0, 0, 0), (.invokevirtual 86, 3, 15, 1, 0, 0), (.ifCond .ne 10, 3, 46, 0, 0, 0)]
def zb_91_39 : List zN := [(.aload_n 0, 1, 0, 0, 0, 0), (.bipush (-2), 2, 0, 0, (-2), 0), (.invokevirtual 35, 3, 72, 1, 0, 0), (.ireturn, 1, 0, 0, 0, 0)]
def zb_91_46 : List zN := [(.aload_n 0, 1, 0, 0, 0, 0), (.getfield 10, 3, 5, 0, 0, 0), (.getfield 150, 3, 0, 9, 0, 0), (.iload_n 1, 1, 0, 0, 0, 0), (.aaload, 1, 0, 0, 0, 0), (.astore 4, 2, 0, 0, 0, 0), (.aload 4, 2, 0, 0, 0, 0), (.iload_n 3, 1, 0, 0, 0, 0), (.invokevirtual 214, 3, 63, 1, 0, 0), (.ifCond .eq 20, 3, 83, 0, 0, 0), (.aload 4, 2, 0, 0, 0, 0), (.getfield 217, 3, 3, 8, 0, 0), (.ifCond .gt 12, 3, 83, 0, 0, 0), (.iload_n 2, 1, 0, 0, 0, 0), (.aload 4, 2, 0, 0, 0, 0), (.getfield 178, 3, 3, 4, 0, 0), (.if_icmp .lt 10, 3, 90, 0, 0, 0)]
def zb_91_83 : List zN := [(.aload_n 0, 1, 0, 0, 0, 0), (.bipush (-4), 2, 0, 0, (-4), 0), (.invokevirtual 35, 3, 72, 1, 0, 0), (.ireturn, 1, 0, 0, 0, 0)]
def zb_91_90 : List zN := [(.aload_n 0, 1, 0, 0, 0, 0), (.getfield 10, 3, 5, 0, 0, 0), (.getfield 147, 3, 0, 5, 0, 0), (.bipush 40, 2, 0, 0, 40, 0), (.if_icmp .lt 10, 3, 109, 0, 0, 0), (.aload_n 0, 1, 0, 0, 0, 0), (.bipush (-5), 2, 0, 0, (-5), 0), (.invokevirtual 35, 3, 72, 1, 0, 0), (.ireturn, 1, 0, 0, 0, 0)]
def zb_91_109 : List zN := [(.aload_n 0, 1, 0, 0, 0, 0), (.bipush 13, 2, 0, 0, 13, 0), (.invokevirtual 43, 3, 73, 1, 0, 0), (.aload_n 0, 1, 0, 0, 0, 0), (.aload_n 0, 1, 0, 0, 0, 0), (.getfield 10, 3, 5, 0, 0, 0), (.iload_n 1, 1, 0, 0, 0, 0), (.iload_n 2, 1, 0, 0, 0, 0), (.iload_n 3, 1, 0, 0, 0, 0), (.invokevirtual 220, 3, 32, 3, 0, 0), (.invokevirtual 50, 3, 75, 1, 0, 0), (.ireturn, 1, 0, 0, 0, 0)]
def zc_91 (pc : Nat) : List zN := if pc = 0 then zb_91_0 else if pc = 17 then zb_91_17 else if pc = 39 then zb_91_39 else if pc = 46 then zb_91_46 else if pc = 83 then zb_91_83 else if pc = 90 then zb_91_90 else if pc = 109 then zb_91_109 else []
def zb_92_0 : List zN := [(.iload_n 2, 1, 0, 0, 0, 0), (.invokestatic 99, 3, 81, 1, 0, 0), (.ifCond .eq 13, 3, 17, 0, 0, 0), (.iload_n 3, 1, 0, 0, 0, 0), (.iconst 1, 1, 0, 0, 1, 0), (.ldc 102, 2, 0, 0, 99999, 0), (.invokestatic 31, 3, 71, 3, 0, 0), (.ifCond .eq 9, 3, 23, 0, 0, 0)]
def zb_92_17 : List zN := [(.aload_n 0, 1, 0, 0, 0, 0), (.iconst (-1), 1, 0, 0, (-1), 0), (.invokevirtual 35, 3, 72, 1, 0, 0), (.ireturn, 1, 0, 0, 0, 0)]
def zb_92_23 : List zN := [(.aload_n 0, 1, 0, 0, 0, 0), (.getfield 10, 3, 5, 0, 0, 0), (.iload_n 1, 1, 0, 0, 0, 0), (.invokevirtual 86, 3, 15, 1, 0, 0), (.ifCond .ne 10, 3, 41, 0, 0, 0), (.aload_n 0, 1, 0, 0, 0, 0), (.bipush (-2), 2, 0, 0, (-2), 0), (.invokevirtual 35, 3, 72, 1, 0, 0), (.ireturn, 1, 0, 0, 0, 0)]
def zb_92_41 : List zN := [(.aload_n 0, 1, 0, 0, 0, 0), (.getfield 10, 3, 5, 0, 0, 0), (.getfield 89, 3, 0, 7, 0, 0), (.iload_n 1, 1, 0, 0, 0, 0), (.aaload, 1, 0, 0, 0, 0), (.astore 4, 2, 0, 0, 0, 0), (.iload_n 3, 1, 0, 0, 0, 0), (.aload_n 0, 1, 0, 0, 0, 0), (.getfield 10, 3, 5, 0, 0, 0), (.getfield 110, 3, 0, 8, 0, 0), (.iload_n 2, 1, 0, 0, 0, 0), (.aaload, 1, 0, 0, 0, 0), (.aload_n 0, 1, 0, 0, 0, 0), (.getfield 10, 3, 5, 0, 0, 0), (.getfield 122, 3, 0, 0, 0, 0), (.invokevirtual 138, 3, 54, 1, 0, 0), (.imul, 1, 0, 0, 0, 0), (.istore 5, 2, 0, 0, 0, 0), (.aload 4, 2, 0, 0, 0, 0), (.getfield 107, 3, 4, 0, 0, 0), (.iload_n 2, 1, 0, 0, 0, 0), (.iaload, 1, 0, 0, 0, 0), (.iload_n 3, 1, 0, 0, 0, 0), (.if_icmp .lt 17, 3, 100, 0, 0, 0), (.aload_n 0, 1, 0, 0, 0, 0), (.getfield 10, 3, 5, 0, 0, 0), (.aload 4, 2, 0, 0, 0, 0), (.invokevirtual 223, 3, 8, 1, 0, 0), (.iload 5, 2, 0, 0, 0, 0), (.if_icmp .ge 10, 3, 107, 0, 0, 0)]
def zb_92_100 : List zN := [(.aload_n 0, 1, 0, 0, 0, 0), (.bipush (-4), 2, 0, 0, (-4), 0), (.invokevirtual 35, 3, 72, 1, 0, 0), (.ireturn, 1, 0, 0, 0, 0)]
def zb_92_107 : List zN := [(.aload_n 0, 1, 0, 0, 0, 0), (.bipush 14, 2, 0, 0, 14, 0), (.invokevirtual 43, 3, 73, 1, 0, 0), (.aload 4, 2, 0, 0, 0, 0), (.getfield 107, 3, 4, 0, 0, 0), (.iload_n 2, 1, 0, 0, 0, 0), (.dup2, 1, 0, 0, 0, 0), (.iaload, 1, 0, 0, 0, 0), (.iload_n 3, 1, 0, 0, 0, 0), (.isub, 1, 0, 0, 0, 0), (.iastore, 1, 0, 0, 0, 0), (.aload_n 0, 1, 0, 0, 0, 0), (.getfield 10, 3, 5, 0, 0, 0), (.aload 4, 2, 0, 0, 0, 0), (.iload 5, 2, 0, 0, 0, 0), (.invokevirtual 227, 3, 34, 2, 0, 0), (.aload_n 0, 1, 0, 0, 0, 0), (.iload 5, 2, 0, 0, 0, 0), (.invokevirtual 50, 3, 75, 1, 0, 0), (.ireturn, 1, 0, 0, 0, 0)]
def zc_92 (pc : Nat) : List zN := if pc = 0 then zb_92_0 else if pc = 17 then zb_92_17 else if pc = 23 then zb_92_23 else if pc = 41 then zb_92_41 else if pc = 100 then zb_92_100 else if pc = 107 then zb_92_107 else []
def zb_93_0 : List zN := [(.aload_n 0, 1, 0, 0, 0, 0), (.getfield 10, 3, 5, 0, 0, 0), (.iload_n 1, 1, 0, 0, 0, 0), (.invokevirtual 166, 3, 19, 1, 0, 0), (.ifCond .eq 25, 3, 33, 0, 0, 0), (.aload_n 0, 1, 0, 0, 0, 0), (.getfield 10, 3, 5, 0, 0, 0), (.iload_n 2, 1, 0, 0, 0, 0), (.invokevirtual 53, 3, 10, 1, 0, 0), (.ifCond .eq 14, 3, 33, 0, 0, 0), (.aload_n 0, 1, 0, 0, 0, 0), (.getfield 10, 3, 5, 0, 0, 0), (.iload_n 3, 1, 0, 0, 0, 0), (.invokevirtual 53, 3, 10, 1, 0, 0), (.ifCond .ne 10, 3, 40, 0, 0, 0)]
def zb_93_33 : List zN := [(.aload_n 0, 1, 0, 0, 0, 0), (.bipush (-2), 2, 0, 0, (-2), 0), (.invokevirtual 35, 3, 72, 1, 0, 0), (.ireturn, 1, 0, 0, 0, 0)]
def zb_93_40 : List zN := [(.aload_n 0, 1, 0, 0, 0, 0), (.getfield 10, 3, 5, 0, 0, 0), (.getfield 150, 3, 0, 9, 0, 0), (.iload_n 1, 1, 0, 0, 0, 0), (.aaload, 1, 0, 0, 0, 0), (.astore 4, 2, 0, 0, 0, 0), (.aload 4, 2, 0, 0, 0, 0), (.getfield 231, 3, 3, 15, 0, 0), (.iload_n 2, 1, 0, 0, 0, 0), (.iaload, 1, 0, 0, 0, 0), (.istore 5, 2, 0, 0, 0, 0), (.iload_n 2, 1, 0, 0, 0, 0), (.iload_n 3, 1, 0, 0, 0, 0), (.if_icmp .eq 34, 3, 96, 0, 0, 0), (.aload 4, 2, 0, 0, 0, 0), (.getfield 172, 3, 3, 0, 0, 0), (.iconst 1, 1, 0, 0, 1, 0), (.if_icmp .ne 25, 3, 96, 0, 0, 0), (.iload 5, 2, 0, 0, 0, 0), (.ifCond .eq 20, 3, 96, 0, 0, 0), (.aload_n 0, 1, 0, 0, 0, 0), (.getfield 10, 3, 5, 0, 0, 0), (.getfield 57, 3, 0, 6, 0, 0), (.iload_n 3, 1, 0, 0, 0, 0), (.aaload, 1, 0, 0, 0, 0), (.invokevirtual 234, 3, 47, 0, 0, 0), (.iload 5, 2, 0, 0, 0, 0), (.if_icmp .ge 10, 3, 103, 0, 0, 0)]
def zb_93_96 : List zN := [(.aload_n 0, 1, 0, 0, 0, 0), (.bipush (-4), 2, 0, 0, (-4), 0), (.invokevirtual 35, 3, 72, 1, 0, 0), (.ireturn, 1, 0, 0, 0, 0)]
def zb_93_103 : List zN := [(.aload_n 0, 1, 0, 0, 0, 0), (.bipush 16, 2, 0, 0, 16, 0), (.invokevirtual 43, 3, 73, 1, 0, 0), (.aload 4, 2, 0, 0, 0, 0), (.getfield 231, 3, 3, 15, 0, 0), (.iload_n 2, 1, 0, 0, 0, 0), (.iconst 0, 1, 0, 0, 0, 0), (.iastore, 1, 0, 0, 0, 0), (.aload 4, 2, 0, 0, 0, 0), (.getfield 231, 3, 3, 15, 0, 0), (.iload_n 3, 1, 0, 0, 0, 0), (.dup2, 1, 0, 0, 0, 0), (.iaload, 1, 0, 0, 0, 0), (.iload 5, 2, 0, 0, 0, 0), (.iadd, 1, 0, 0, 0, 0), (.iastore, 1, 0, 0, 0, 0), (.aload_n 0, 1, 0, 0, 0, 0), (.getfield 10, 3, 5, 0, 0, 0), (.getfield 57, 3, 0, 6, 0, 0), (.iload_n 2, 1, 0, 0, 0, 0), (.aaload, 1, 0, 0, 0, 0), (.dup, 1, 0, 0, 0, 0), (.getfield 61, 3, 1, 1, 0, 0), (.iload 5, 2, 0, 0, 0, 0), (.isub, 1, 0, 0, 0, 0), (.putfield 61, 3, 1, 1, 0, 0), (.aload_n 0, 1, 0, 0, 0, 0), (.getfield 10, 3, 5, 0, 0, 0), (.getfield 57, 3, 0, 6, 0, 0), (.iload_n 3, 1, 0, 0, 0, 0), (.aaload, 1, 0, 0, 0, 0), (.dup, 1, 0, 0, 0, 0), (.getfield 61, 3, 1, 1, 0, 0), (.iload 5, 2, 0, 0, 0, 0), (.iadd, 1, 0, 0, 0, 0), (.putfield 61, 3, 1, 1, 0, 0), (.aload_n 0, 1, 0, 0, 0, 0), (.iload 5, 2, 0, 0, 0, 0), (.invokevirtual 50, 3, 75, 1, 0, 0), (.ireturn, 1, 0, 0, 0, 0)]
def zc_93 (pc : Nat) : List zN := if pc = 0 then zb_93_0 else if pc = 33 then zb_93_33 else if pc = 40 then zb_93_40 else if pc = 96 then zb_93_96 else if pc = 103 then zb_93_103 else []
def zb_94_0 : List zN := [(.iload_n 2, 1, 0, 0, 0, 0), (.iconst 1, 1, 0, 0, 1, 0), (.bipush 90, 2, 0, 0, 90, 0), (.invokestatic 31, 3, 71, 3, 0, 0), (.ifCond .eq 9, 3, 16, 0, 0, 0), (.aload_n 0, 1, 0, 0, 0, 0), (.iconst (-1), 1, 0, 0, (-1), 0), (.invokevirtual 35, 3, 72, 1, 0, 0), (.ireturn, 1, 0, 0, 0, 0)]
def zb_94_16 : List zN := [(.aload_n 0, 1, 0, 0, 0, 0), (.getfield 10, 3, 5, 0, 0, 0), (.iload_n 1, 1, 0, 0, 0, 0), (.invokevirtual 166, 3, 19, 1, 0, 0), (.ifCond .ne 10, 3, 34, 0, 0, 0), (.aload_n 0, 1, 0, 0, 0, 0), (.bipush (-2), 2, 0, 0, (-2), 0), (.invokevirtual 35, 3, 72, 1, 0, 0), (.ireturn, 1, 0, 0, 0, 0)]
def zb_94_34 : List zN := [(.aload_n 0, 1, 0, 0, 0, 0), (.getfield 10, 3, 5, 0, 0, 0), (.getfield 150, 3, 0, 9, 0, 0), (.iload_n 1, 1, 0, 0, 0, 0), (.aaload, 1, 0, 0, 0, 0), (.astore_n 3, 1, 0, 0, 0, 0), (.aload_n 3, 1, 0, 0, 0, 0), (.getfield 172, 3, 3, 0, 0, 0), (.iconst 1, 1, 0, 0, 1, 0), (.if_icmp .ne 38, 3, 87, 0, 0, 0), (.aload_n 3, 1, 0, 0, 0, 0), (.getfield 160, 3, 3, 5, 0, 0), (.iload_n 2, 1, 0, 0, 0, 0), (.iadd, 1, 0, 0, 0, 0), (.sipush 180, 3, 0, 0, 180, 0), (.if_icmp .gt 26, 3, 87, 0, 0, 0), (.aload_n 0, 1, 0, 0, 0, 0), (.getfield 10, 3, 5, 0, 0, 0), (.aload_n 3, 1, 0, 0, 0, 0), (.invokevirtual 237, 3, 35, 1, 0, 0), (.ifCond .ne 15, 3, 87, 0, 0, 0), (.aload_n 0, 1, 0, 0, 0, 0), (.getfield 10, 3, 5, 0, 0, 0), (.aload_n 3, 1, 0, 0, 0, 0), (.iload_n 2, 1, 0, 0, 0, 0), (.invokevirtual 241, 3, 36, 2, 0, 0), (.ifCond .eq 10, 3, 94, 0, 0, 0)]
def zb_94_87 : List zN := [(.aload_n 0, 1, 0, 0, 0, 0), (.bipush (-4), 2, 0, 0, (-4), 0), (.invokevirtual 35, 3, 72, 1, 0, 0), (.ireturn, 1, 0, 0, 0, 0)]
def zb_94_94 : List zN := [(.aload_n 0, 1, 0, 0, 0, 0), (.bipush 17, 2, 0, 0, 17, 0), (.invokevirtual 43, 3, 73, 1, 0, 0), (.aload_n 3, 1, 0, 0, 0, 0), (.dup, 1, 0, 0, 0, 0), (.getfield 160, 3, 3, 5, 0, 0), (.iload_n 2, 1, 0, 0, 0, 0), (.iadd, 1, 0, 0, 0, 0), (.putfield 160, 3, 3, 5, 0, 0), (.aload_n 0, 1, 0, 0, 0, 0), (.getfield 10, 3, 5, 0, 0, 0), (.aload_n 3, 1, 0, 0, 0, 0), (.invokevirtual 244, 3, 17, 1, 0, 0), (.pop, 1, 0, 0, 0, 0), (.aload_n 0, 1, 0, 0, 0, 0), (.aload_n 3, 1, 0, 0, 0, 0), (.invokevirtual 247, 3, 60, 0, 0, 0), (.invokevirtual 50, 3, 75, 1, 0, 0), (.ireturn, 1, 0, 0, 0, 0)]
def zc_94 (pc : Nat) : List zN := if pc = 0 then zb_94_0 else if pc = 16 then zb_94_16 else if pc = 34 then zb_94_34 else if pc = 87 then zb_94_87 else if pc = 94 then zb_94_94 else []
def zb_95_0 : List zN := [(.aload_n 0, 1, 0, 0, 0, 0), (.getfield 10, 3, 5, 0, 0, 0), (.iload_n 1, 1, 0, 0, 0, 0), (.invokevirtual 166, 3, 19, 1, 0, 0), (.ifCond .eq 14, 3, 22, 0, 0, 0), (.aload_n 0, 1, 0, 0, 0, 0), (.getfield 10, 3, 5, 0, 0, 0), (.iload_n 2, 1, 0, 0, 0, 0), (.invokevirtual 86, 3, 15, 1, 0, 0), (.ifCond .ne 10, 3, 29, 0, 0, 0)]
def zb_95_22 : List zN := [(.aload_n 0, 1, 0, 0, 0, 0), (.bipush (-2), 2, 0, 0, (-2), 0), (.invokevirtual 35, 3, 72, 1, 0, 0), (.ireturn, 1, 0, 0, 0, 0)]
def zb_95_29 : List zN := [(.aload_n 0, 1, 0, 0, 0, 0), (.getfield 10, 3, 5, 0, 0, 0), (.getfield 150, 3, 0, 9, 0, 0), (.iload_n 1, 1, 0, 0, 0, 0), (.aaload, 1, 0, 0, 0, 0), (.astore_n 3, 1, 0, 0, 0, 0), (.aload_n 3, 1, 0, 0, 0, 0), (.iload_n 2, 1, 0, 0, 0, 0), (.invokevirtual 214, 3, 63, 1, 0, 0), (.ifCond .ne 10, 3, 54, 0, 0, 0), (.aload_n 0, 1, 0, 0, 0, 0), (.bipush (-4), 2, 0, 0, (-4), 0), (.invokevirtual 35, 3, 72, 1, 0, 0), (.ireturn, 1, 0, 0, 0, 0)]
def zb_95_54 : List zN := [(.aload_n 0, 1, 0, 0, 0, 0), (.bipush 18, 2, 0, 0, 18, 0), (.invokevirtual 43, 3, 73, 1, 0, 0), (.aload_n 3, 1, 0, 0, 0, 0), (.getfield 204, 3, 3, 2, 0, 0), (.istore 4, 2, 0, 0, 0, 0), (.aload_n 3, 1, 0, 0, 0, 0), (.iload_n 2, 1, 0, 0, 0, 0), (.putfield 204, 3, 3, 2, 0, 0), (.aload_n 0, 1, 0, 0, 0, 0), (.iload 4, 2, 0, 0, 0, 0), (.invokevirtual 50, 3, 75, 1, 0, 0), (.ireturn, 1, 0, 0, 0, 0)]
def zc_95 (pc : Nat) : List zN := if pc = 0 then zb_95_0 else if pc = 22 then zb_95_22 else if pc = 29 then zb_95_29 else if pc = 54 then zb_95_54 else []
def zb_96_0 : List zN := [(.iload_n 1, 1, 0, 0, 0, 0), (.iconst 1, 1, 0, 0, 1, 0), (.bipush 90, 2, 0, 0, 90, 0), (.invokestatic 31, 3, 71, 3, 0, 0), (.ifCond .eq 9, 3, 16, 0, 0, 0), (.aload_n 0, 1, 0, 0, 0, 0), (.iconst (-1), 1, 0, 0, (-1), 0), (.invokevirtual 35, 3, 72, 1, 0, 0), (.ireturn, 1, 0, 0, 0, 0)]
def zb_96_16 : List zN := [(.aload_n 0, 1, 0, 0, 0, 0), (.getfield 10, 3, 5, 0, 0, 0), (.getfield 122, 3, 0, 0, 0, 0), (.iload_n 1, 1, 0, 0, 0, 0), (.iadd, 1, 0, 0, 0, 0), (.sipush 9999, 3, 0, 0, 9999, 0), (.if_icmp .le 10, 3, 38, 0, 0, 0), (.aload_n 0, 1, 0, 0, 0, 0), (.bipush (-4), 2, 0, 0, (-4), 0), (.invokevirtual 35, 3, 72, 1, 0, 0), (.ireturn, 1, 0, 0, 0, 0)]
def zb_96_38 : List zN := [(.aload_n 0, 1, 0, 0, 0, 0), (.bipush 15, 2, 0, 0, 15, 0), (.invokevirtual 43, 3, 73, 1, 0, 0), (.aload_n 0, 1, 0, 0, 0, 0), (.aload_n 0, 1, 0, 0, 0, 0), (.getfield 10, 3, 5, 0, 0, 0), (.iload_n 1, 1, 0, 0, 0, 0), (.invokevirtual 250, 3, 37, 1, 0, 0), (.invokevirtual 50, 3, 75, 1, 0, 0), (.ireturn, 1, 0, 0, 0, 0)]
def zc_96 (pc : Nat) : List zN := if pc = 0 then zb_96_0 else if pc = 16 then zb_96_16 else if pc = 38 then zb_96_38 else []
def zb_97_0 : List zN := [(.aload_n 0, 1, 0, 0, 0, 0), (.getfield 253, 3, 5, 6, 0, 0), (.ifCond .ne 10, 3, 14, 0, 0, 0), (.aload_n 0, 1, 0, 0, 0, 0), (.bipush (-4), 2, 0, 0, (-4), 0), (.invokevirtual 35, 3, 72, 1, 0, 0), (.ireturn, 1, 0, 0, 0, 0)]
def zb_97_14 : List zN := [(.aload_n 0, 1, 0, 0, 0, 0), (.dup, 1, 0, 0, 0, 0), (.getfield 253, 3, 5, 6, 0, 0), (.iconst 1, 1, 0, 0, 1, 0), (.isub, 1, 0, 0, 0, 0), (.putfield 253, 3, 5, 6, 0, 0), (.aload_n 0, 1, 0, 0, 0, 0), (.getfield 256, 3, 5, 5, 0, 0), (.aload_n 0, 1, 0, 0, 0, 0), (.getfield 253, 3, 5, 6, 0, 0), (.iadd, 1, 0, 0, 0, 0), (.bipush 8, 2, 0, 0, 8, 0), (.irem, 1, 0, 0, 0, 0), (.istore_n 1, 1, 0, 0, 0, 0), (.aload_n 0, 1, 0, 0, 0, 0), (.getfield 20, 3, 5, 3, 0, 0), (.iload_n 1, 1, 0, 0, 0, 0), (.aaload, 1, 0, 0, 0, 0), (.astore_n 2, 1, 0, 0, 0, 0), (.aload_n 2, 1, 0, 0, 0, 0), (.ifnull 11, 3, 56, 0, 0, 0), (.aload_n 0, 1, 0, 0, 0, 0), (.getfield 10, 3, 5, 0, 0, 0), (.aload_n 2, 1, 0, 0, 0, 0), (.invokevirtual 259, 3, 1, 1, 0, 0)]
def zb_97_56 : List zN := [(.aload_n 0, 1, 0, 0, 0, 0), (.iconst 0, 1, 0, 0, 0, 0), (.putfield 263, 3, 5, 7, 0, 0), (.aload_n 0, 1, 0, 0, 0, 0), (.getfield 23, 3, 5, 4, 0, 0), (.iload_n 1, 1, 0, 0, 0, 0), (.iaload, 1, 0, 0, 0, 0), (.ireturn, 1, 0, 0, 0, 0)]
def zc_97 (pc : Nat) : List zN := if pc = 0 then zb_97_0 else if pc = 14 then zb_97_14 else if pc = 56 then zb_97_56 else []
def zb_98_0 : List zN := [(.iload_n 1, 1, 0, 0, 0, 0), (.iconst 0, 1, 0, 0, 0, 0), (.iconst 1, 1, 0, 0, 1, 0), (.invokestatic 31, 3, 71, 3, 0, 0), (.ifCond .eq 9, 3, 15, 0, 0, 0), (.aload_n 0, 1, 0, 0, 0, 0), (.iconst (-1), 1, 0, 0, (-1), 0), (.invokevirtual 35, 3, 72, 1, 0, 0), (.ireturn, 1, 0, 0, 0, 0)]
def zb_98_15 : List zN := [(.aload_n 0, 1, 0, 0, 0, 0), (.getfield 16, 3, 5, 2, 0, 0), (.iload_n 1, 1, 0, 0, 0, 0), (.aload_n 0, 1, 0, 0, 0, 0), (.aload_n 0, 1, 0, 0, 0, 0), (.getfield 16, 3, 5, 2, 0, 0), (.iload_n 1, 1, 0, 0, 0, 0), (.aaload, 1, 0, 0, 0, 0), (.invokevirtual 266, 3, 74, 1, 0, 0), (.aastore, 1, 0, 0, 0, 0), (.aload_n 0, 1, 0, 0, 0, 0), (.iconst 0, 1, 0, 0, 0, 0), (.putfield 263, 3, 5, 7, 0, 0), (.aload_n 0, 1, 0, 0, 0, 0), (.getfield 10, 3, 5, 0, 0, 0), (.getfield 122, 3, 0, 0, 0, 0), (.ireturn, 1, 0, 0, 0, 0)]
def zc_98 (pc : Nat) : List zN := if pc = 0 then zb_98_0 else if pc = 15 then zb_98_15 else []
def zb_99_0 : List zN := [(.iload_n 1, 1, 0, 0, 0, 0), (.iconst 0, 1, 0, 0, 0, 0), (.iconst 1, 1, 0, 0, 1, 0), (.invokestatic 31, 3, 71, 3, 0, 0), (.ifCond .eq 9, 3, 15, 0, 0, 0), (.aload_n 0, 1, 0, 0, 0, 0), (.iconst (-1), 1, 0, 0, (-1), 0), (.invokevirtual 35, 3, 72, 1, 0, 0), (.ireturn, 1, 0, 0, 0, 0)]
def zb_99_15 : List zN := [(.aload_n 0, 1, 0, 0, 0, 0), (.getfield 16, 3, 5, 2, 0, 0), (.iload_n 1, 1, 0, 0, 0, 0), (.aaload, 1, 0, 0, 0, 0), (.astore_n 2, 1, 0, 0, 0, 0), (.aload_n 2, 1, 0, 0, 0, 0), (.ifnonnull 10, 3, 33, 0, 0, 0), (.aload_n 0, 1, 0, 0, 0, 0), (.bipush (-4), 2, 0, 0, (-4), 0), (.invokevirtual 35, 3, 72, 1, 0, 0), (.ireturn, 1, 0, 0, 0, 0)]
def zb_99_33 : List zN := [(.aload_n 0, 1, 0, 0, 0, 0), (.getfield 10, 3, 5, 0, 0, 0), (.aload_n 2, 1, 0, 0, 0, 0), (.invokevirtual 259, 3, 1, 1, 0, 0), (.aload_n 0, 1, 0, 0, 0, 0), (.iconst 0, 1, 0, 0, 0, 0), (.putfield 253, 3, 5, 6, 0, 0), (.aload_n 0, 1, 0, 0, 0, 0), (.iconst 0, 1, 0, 0, 0, 0), (.putfield 263, 3, 5, 7, 0, 0), (.aload_n 0, 1, 0, 0, 0, 0), (.getfield 10, 3, 5, 0, 0, 0), (.getfield 122, 3, 0, 0, 0, 0), (.ireturn, 1, 0, 0, 0, 0)]
def zc_99 (pc : Nat) : List zN := if pc = 0 then zb_99_0 else if pc = 15 then zb_99_15 else if pc = 33 then zb_99_33 else []
def zb_100_0 : List zN := [(.aload_n 0, 1, 0, 0, 0, 0), (.getfield 10, 3, 5, 0, 0, 0), (.iload_n 1, 1, 0, 0, 0, 0), (.invokevirtual 53, 3, 10, 1, 0, 0), (.ifCond .ne 5, 3, 13, 0, 0, 0), (.iconst (-1), 1, 0, 0, (-1), 0), (.ireturn, 1, 0, 0, 0, 0)]
def zb_100_13 : List zN := [(.aload_n 0, 1, 0, 0, 0, 0), (.getfield 10, 3, 5, 0, 0, 0), (.getfield 57, 3, 0, 6, 0, 0), (.iload_n 1, 1, 0, 0, 0, 0), (.aaload, 1, 0, 0, 0, 0), (.astore_n 3, 1, 0, 0, 0, 0), (.iload_n 2, 1, 0, 0, 0, 0), (.tableswitch 52 0 3 #[32, 37, 42, 47], 32, 76, 0, 0, 0)]
def zb_100_56 : List zN := [(.aload_n 3, 1, 0, 0, 0, 0), (.getfield 69, 3, 1, 0, 0, 0), (.ireturn, 1, 0, 0, 0, 0)]
def zb_100_61 : List zN := [(.aload_n 3, 1, 0, 0, 0, 0), (.getfield 61, 3, 1, 1, 0, 0), (.ireturn, 1, 0, 0, 0, 0)]
def zb_100_66 : List zN := [(.aload_n 3, 1, 0, 0, 0, 0), (.getfield 66, 3, 1, 2, 0, 0), (.ireturn, 1, 0, 0, 0, 0)]
def zb_100_71 : List zN := [(.aload_n 3, 1, 0, 0, 0, 0), (.invokevirtual 234, 3, 47, 0, 0, 0), (.ireturn, 1, 0, 0, 0, 0)]
def zb_100_76 : List zN := [(.iconst (-1), 1, 0, 0, (-1), 0), (.ireturn, 1, 0, 0, 0, 0)]
def zc_100 (pc : Nat) : List zN := if pc = 0 then zb_100_0 else if pc = 13 then zb_100_13 else if pc = 56 then zb_100_56 else if pc = 61 then zb_100_61 else if pc = 66 then zb_100_66 else if pc = 71 then zb_100_71 else if pc = 76 then zb_100_76 else []
def zb_101_0 : List zN := [(.iload_n 1, 1, 0, 0, 0, 0), (.iconst (-1), 1, 0, 0, (-1), 0), (.if_icmp .ne 7, 3, 9, 0, 0, 0), (.iconst 1, 1, 0, 0, 1, 0), (.goto 4, 3, 10, 0, 0, 0)]
def zb_101_9 : List zN := [(.iconst 0, 1, 0, 0, 0, 0)]
def zb_101_10 : List zN := [(.istore_n 3, 1, 0, 0, 0, 0), (.iload_n 2, 1, 0, 0, 0, 0), (.iconst 0, 1, 0, 0, 0, 0), (.iconst 1, 1, 0, 0, 1, 0), (.invokestatic 31, 3, 71, 3, 0, 0), (.ifCond .ne 18, 3, 35, 0, 0, 0), (.iload_n 3, 1, 0, 0, 0, 0), (.ifCond .ne 18, 3, 39, 0, 0, 0), (.aload_n 0, 1, 0, 0, 0, 0), (.getfield 10, 3, 5, 0, 0, 0), (.iload_n 1, 1, 0, 0, 0, 0), (.invokevirtual 53, 3, 10, 1, 0, 0), (.ifCond .ne 7, 3, 39, 0, 0, 0)]
def zb_101_35 : List zN := [(.ldc2_w 270, 3, 0, 0, 0, (-1)), (.lreturn, 1, 0, 0, 0, 0)]
def zb_101_39 : List zN := [(.lconst 0, 1, 0, 0, 0, 0), (.lstore 4, 2, 0, 0, 0, 0), (.iconst 0, 1, 0, 0, 0, 0), (.istore 6, 2, 0, 0, 0, 0)]
def zb_101_45 : List zN := [(.iload 6, 2, 0, 0, 0, 0), (.aload_n 0, 1, 0, 0, 0, 0), (.getfield 10, 3, 5, 0, 0, 0), (.getfield 39, 3, 0, 3, 0, 0), (.if_icmp .ge 53, 3, 107, 0, 0, 0), (.iload_n 3, 1, 0, 0, 0, 0), (.ifCond .ne 9, 3, 67, 0, 0, 0), (.iload 6, 2, 0, 0, 0, 0), (.iload_n 1, 1, 0, 0, 0, 0), (.if_icmp .ne 37, 3, 101, 0, 0, 0)]
def zb_101_67 : List zN := [(.aload_n 0, 1, 0, 0, 0, 0), (.getfield 10, 3, 5, 0, 0, 0), (.getfield 57, 3, 0, 6, 0, 0), (.iload 6, 2, 0, 0, 0, 0), (.aaload, 1, 0, 0, 0, 0), (.astore 7, 2, 0, 0, 0, 0), (.lload 4, 2, 0, 0, 0, 0), (.iload_n 2, 1, 0, 0, 0, 0), (.ifCond .ne 11, 3, 93, 0, 0, 0), (.aload 7, 2, 0, 0, 0, 0), (.getfield 272, 3, 1, 3, 0, 0), (.goto 8, 3, 98, 0, 0, 0)]
def zb_101_93 : List zN := [(.aload 7, 2, 0, 0, 0, 0), (.getfield 72, 3, 1, 4, 0, 0)]
def zb_101_98 : List zN := [(.ladd, 1, 0, 0, 0, 0), (.lstore 4, 2, 0, 0, 0, 0)]
def zb_101_101 : List zN := [(.iinc 6 1, 3, 0, 0, 1, 0), (.goto (-59), 3, 45, 0, 0, 0)]
def zb_101_107 : List zN := [(.lload 4, 2, 0, 0, 0, 0), (.lreturn, 1, 0, 0, 0, 0)]
def zc_101 (pc : Nat) : List zN := if pc = 0 then zb_101_0 else if pc = 9 then zb_101_9 else if pc = 10 then zb_101_10 else if pc = 35 then zb_101_35 else if pc = 39 then zb_101_39 else if pc = 45 then zb_101_45 else if pc = 67 then zb_101_67 else if pc = 93 then zb_101_93 else if pc = 98 then zb_101_98 else if pc = 101 then zb_101_101 else if pc = 107 then zb_101_107 else []
def zb_102_0 : List zN := [(.aload_n 0, 1, 0, 0, 0, 0), (.getfield 10, 3, 5, 0, 0, 0), (.iload_n 1, 1, 0, 0, 0, 0), (.invokevirtual 86, 3, 15, 1, 0, 0), (.ifCond .ne 5, 3, 13, 0, 0, 0), (.iconst (-1), 1, 0, 0, (-1), 0), (.ireturn, 1, 0, 0, 0, 0)]
def zb_102_13 : List zN := [(.aload_n 0, 1, 0, 0, 0, 0), (.getfield 10, 3, 5, 0, 0, 0), (.getfield 89, 3, 0, 7, 0, 0), (.iload_n 1, 1, 0, 0, 0, 0), (.aaload, 1, 0, 0, 0, 0), (.astore_n 3, 1, 0, 0, 0, 0), (.iload_n 2, 1, 0, 0, 0, 0), (.invokestatic 99, 3, 81, 1, 0, 0), (.ifCond .eq 10, 3, 37, 0, 0, 0), (.aload_n 3, 1, 0, 0, 0, 0), (.getfield 107, 3, 4, 0, 0, 0), (.iload_n 2, 1, 0, 0, 0, 0), (.iaload, 1, 0, 0, 0, 0), (.ireturn, 1, 0, 0, 0, 0)]
def zb_102_37 : List zN := [(.iload_n 2, 1, 0, 0, 0, 0), (.iconst 5, 1, 0, 0, 5, 0), (.if_icmp .ne 12, 3, 51, 0, 0, 0), (.aload_n 0, 1, 0, 0, 0, 0), (.getfield 10, 3, 5, 0, 0, 0), (.aload_n 3, 1, 0, 0, 0, 0), (.invokevirtual 223, 3, 8, 1, 0, 0), (.ireturn, 1, 0, 0, 0, 0)]
def zb_102_51 : List zN := [(.iload_n 2, 1, 0, 0, 0, 0), (.iconst 5, 1, 0, 0, 5, 0), (.if_icmp .le 24, 3, 77, 0, 0, 0), (.iload_n 2, 1, 0, 0, 0, 0), (.iconst 5, 1, 0, 0, 5, 0), (.isub, 1, 0, 0, 0, 0), (.aload_n 3, 1, 0, 0, 0, 0), (.getfield 275, 3, 4, 2, 0, 0), (.if_icmp .gt 14, 3, 77, 0, 0, 0), (.aload_n 3, 1, 0, 0, 0, 0), (.getfield 278, 3, 4, 1, 0, 0), (.iload_n 2, 1, 0, 0, 0, 0), (.iconst 5, 1, 0, 0, 5, 0), (.isub, 1, 0, 0, 0, 0), (.iconst 1, 1, 0, 0, 1, 0), (.isub, 1, 0, 0, 0, 0), (.iaload, 1, 0, 0, 0, 0), (.ireturn, 1, 0, 0, 0, 0)]
def zb_102_77 : List zN := [(.iconst (-1), 1, 0, 0, (-1), 0), (.ireturn, 1, 0, 0, 0, 0)]
def zc_102 (pc : Nat) : List zN := if pc = 0 then zb_102_0 else if pc = 13 then zb_102_13 else if pc = 37 then zb_102_37 else if pc = 51 then zb_102_51 else if pc = 77 then zb_102_77 else []
def zb_103_0 : List zN := [(.aload_n 0, 1, 0, 0, 0, 0), (.getfield 10, 3, 5, 0, 0, 0), (.iload_n 1, 1, 0, 0, 0, 0), (.invokevirtual 166, 3, 19, 1, 0, 0), (.ifCond .ne 5, 3, 13, 0, 0, 0), (.iconst (-1), 1, 0, 0, (-1), 0), (.ireturn, 1, 0, 0, 0, 0)]
def zb_103_13 : List zN := [(.aload_n 0, 1, 0, 0, 0, 0), (.getfield 10, 3, 5, 0, 0, 0), (.getfield 150, 3, 0, 9, 0, 0), (.iload_n 1, 1, 0, 0, 0, 0), (.aaload, 1, 0, 0, 0, 0), (.astore_n 3, 1, 0, 0, 0, 0), (.iload_n 2, 1, 0, 0, 0, 0), (.tableswitch 155 0 14 #[76, 81, 86, 91, 96, 101, 106, 111, 116, 121, 126, 131, 136, 141, 150], 76, 179, 0, 0, 0)]
def zb_103_100 : List zN := [(.aload_n 3, 1, 0, 0, 0, 0), (.getfield 172, 3, 3, 0, 0, 0), (.ireturn, 1, 0, 0, 0, 0)]
def zb_103_105 : List zN := [(.aload_n 3, 1, 0, 0, 0, 0), (.getfield 169, 3, 3, 1, 0, 0), (.ireturn, 1, 0, 0, 0, 0)]
def zb_103_110 : List zN := [(.aload_n 3, 1, 0, 0, 0, 0), (.getfield 204, 3, 3, 2, 0, 0), (.ireturn, 1, 0, 0, 0, 0)]
def zb_103_115 : List zN := [(.aload_n 3, 1, 0, 0, 0, 0), (.getfield 175, 3, 3, 3, 0, 0), (.ireturn, 1, 0, 0, 0, 0)]
def zb_103_120 : List zN := [(.aload_n 3, 1, 0, 0, 0, 0), (.getfield 178, 3, 3, 4, 0, 0), (.ireturn, 1, 0, 0, 0, 0)]
def zb_103_125 : List zN := [(.aload_n 3, 1, 0, 0, 0, 0), (.getfield 160, 3, 3, 5, 0, 0), (.ireturn, 1, 0, 0, 0, 0)]
def zb_103_130 : List zN := [(.aload_n 3, 1, 0, 0, 0, 0), (.getfield 163, 3, 3, 6, 0, 0), (.ireturn, 1, 0, 0, 0, 0)]
def zb_103_135 : List zN := [(.aload_n 3, 1, 0, 0, 0, 0), (.getfield 281, 3, 3, 7, 0, 0), (.ireturn, 1, 0, 0, 0, 0)]
def zb_103_140 : List zN := [(.aload_n 3, 1, 0, 0, 0, 0), (.getfield 217, 3, 3, 8, 0, 0), (.ireturn, 1, 0, 0, 0, 0)]
def zb_103_145 : List zN := [(.aload_n 3, 1, 0, 0, 0, 0), (.invokevirtual 284, 3, 61, 0, 0, 0), (.ireturn, 1, 0, 0, 0, 0)]
def zb_103_150 : List zN := [(.aload_n 3, 1, 0, 0, 0, 0), (.getfield 287, 3, 3, 9, 0, 0), (.ireturn, 1, 0, 0, 0, 0)]
def zb_103_155 : List zN := [(.aload_n 3, 1, 0, 0, 0, 0), (.getfield 290, 3, 3, 10, 0, 0), (.ireturn, 1, 0, 0, 0, 0)]
def zb_103_160 : List zN := [(.aload_n 3, 1, 0, 0, 0, 0), (.getfield 293, 3, 3, 11, 0, 0), (.ireturn, 1, 0, 0, 0, 0)]
def zb_103_165 : List zN := [(.aload_n 0, 1, 0, 0, 0, 0), (.getfield 10, 3, 5, 0, 0, 0), (.aload_n 3, 1, 0, 0, 0, 0), (.invokevirtual 296, 3, 7, 1, 0, 0), (.ireturn, 1, 0, 0, 0, 0)]
def zb_103_174 : List zN := [(.aload_n 3, 1, 0, 0, 0, 0), (.getfield 300, 3, 3, 12, 0, 0), (.ireturn, 1, 0, 0, 0, 0)]
def zb_103_179 : List zN := [(.iconst (-1), 1, 0, 0, (-1), 0), (.ireturn, 1, 0, 0, 0, 0)]
def zc_103 (pc : Nat) : List zN := if pc = 0 then zb_103_0 else if pc = 13 then zb_103_13 else if pc = 100 then zb_103_100 else if pc = 105 then zb_103_105 else if pc = 110 then zb_103_110 else if pc = 115 then zb_103_115 else if pc = 120 then zb_103_120 else if pc = 125 then zb_103_125 else if pc = 130 then zb_103_130 else if pc = 135 then zb_103_135 else if pc = 140 then zb_103_140 else if pc = 145 then zb_103_145 else if pc = 150 then zb_103_150 else if pc = 155 then zb_103_155 else if pc = 160 then zb_103_160 else if pc = 165 then zb_103_165 else if pc = 174 then zb_103_174 else if pc = 179 then zb_103_179 else []
def zb_104_0 : List zN := [(.aload_n 0, 1, 0, 0, 0, 0), (.getfield 10, 3, 5, 0, 0, 0), (.iload_n 1, 1, 0, 0, 0, 0), (.invokevirtual 166, 3, 19, 1, 0, 0), (.ifCond .eq 12, 3, 20, 0, 0, 0), (.iload_n 2, 1, 0, 0, 0, 0), (.iconst 0, 1, 0, 0, 0, 0), (.iconst 1, 1, 0, 0, 1, 0), (.invokestatic 31, 3, 71, 3, 0, 0), (.ifCond .eq 7, 3, 24, 0, 0, 0)]
def zb_104_20 : List zN := [(.ldc2_w 270, 3, 0, 0, 0, (-1)), (.lreturn, 1, 0, 0, 0, 0)]
def zb_104_24 : List zN := [(.aload_n 0, 1, 0, 0, 0, 0), (.getfield 10, 3, 5, 0, 0, 0), (.getfield 150, 3, 0, 9, 0, 0), (.iload_n 1, 1, 0, 0, 0, 0), (.aaload, 1, 0, 0, 0, 0), (.astore_n 3, 1, 0, 0, 0, 0), (.iload_n 2, 1, 0, 0, 0, 0), (.ifCond .ne 10, 3, 45, 0, 0, 0), (.aload_n 3, 1, 0, 0, 0, 0), (.getfield 303, 3, 3, 13, 0, 0), (.goto 7, 3, 49, 0, 0, 0)]
def zb_104_45 : List zN := [(.aload_n 3, 1, 0, 0, 0, 0), (.getfield 306, 3, 3, 14, 0, 0)]
def zb_104_49 : List zN := [(.lreturn, 1, 0, 0, 0, 0)]
def zc_104 (pc : Nat) : List zN := if pc = 0 then zb_104_0 else if pc = 20 then zb_104_20 else if pc = 24 then zb_104_24 else if pc = 45 then zb_104_45 else if pc = 49 then zb_104_49 else []
def zb_105_0 : List zN := [(.aload_n 0, 1, 0, 0, 0, 0), (.getfield 10, 3, 5, 0, 0, 0), (.iload_n 1, 1, 0, 0, 0, 0), (.invokevirtual 166, 3, 19, 1, 0, 0), (.ifCond .eq 14, 3, 22, 0, 0, 0), (.aload_n 0, 1, 0, 0, 0, 0), (.getfield 10, 3, 5, 0, 0, 0), (.iload_n 2, 1, 0, 0, 0, 0), (.invokevirtual 53, 3, 10, 1, 0, 0), (.ifCond .ne 5, 3, 24, 0, 0, 0)]
def zb_105_22 : List zN := [(.iconst (-1), 1, 0, 0, (-1), 0), (.ireturn, 1, 0, 0, 0, 0)]
def zb_105_24 : List zN := [(.aload_n 0, 1, 0, 0, 0, 0), (.getfield 10, 3, 5, 0, 0, 0), (.getfield 150, 3, 0, 9, 0, 0), (.iload_n 1, 1, 0, 0, 0, 0), (.aaload, 1, 0, 0, 0, 0), (.getfield 231, 3, 3, 15, 0, 0), (.iload_n 2, 1, 0, 0, 0, 0), (.iaload, 1, 0, 0, 0, 0), (.ireturn, 1, 0, 0, 0, 0)]
def zc_105 (pc : Nat) : List zN := if pc = 0 then zb_105_0 else if pc = 22 then zb_105_22 else if pc = 24 then zb_105_24 else []
def zb_106_0 : List zN := [(.iload_n 1, 1, 0, 0, 0, 0), (.invokestatic 99, 3, 81, 1, 0, 0), (.ifCond .eq 14, 3, 18, 0, 0, 0), (.iload_n 2, 1, 0, 0, 0, 0), (.iconst 0, 1, 0, 0, 0, 0), (.sipush 9999, 3, 0, 0, 9999, 0), (.invokestatic 31, 3, 71, 3, 0, 0), (.ifCond .eq 5, 3, 20, 0, 0, 0)]
def zb_106_18 : List zN := [(.iconst (-1), 1, 0, 0, (-1), 0), (.ireturn, 1, 0, 0, 0, 0)]
def zb_106_20 : List zN := [(.aload_n 0, 1, 0, 0, 0, 0), (.getfield 10, 3, 5, 0, 0, 0), (.getfield 110, 3, 0, 8, 0, 0), (.iload_n 1, 1, 0, 0, 0, 0), (.aaload, 1, 0, 0, 0, 0), (.iload_n 2, 1, 0, 0, 0, 0), (.invokevirtual 138, 3, 54, 1, 0, 0), (.ireturn, 1, 0, 0, 0, 0)]
def zc_106 (pc : Nat) : List zN := if pc = 0 then zb_106_0 else if pc = 18 then zb_106_18 else if pc = 20 then zb_106_20 else []
def zb_107_0 : List zN := [(.iload_n 1, 1, 0, 0, 0, 0), (.invokestatic 99, 3, 81, 1, 0, 0), (.ifCond .eq 25, 3, 29, 0, 0, 0), (.iload_n 2, 1, 0, 0, 0, 0), (.iconst 0, 1, 0, 0, 0, 0), (.sipush 9999, 3, 0, 0, 9999, 0), (.invokestatic 31, 3, 71, 3, 0, 0), (.ifCond .ne 14, 3, 29, 0, 0, 0), (.iload_n 3, 1, 0, 0, 0, 0), (.iconst 0, 1, 0, 0, 0, 0), (.sipush 999, 3, 0, 0, 999, 0), (.invokestatic 31, 3, 71, 3, 0, 0), (.ifCond .eq 5, 3, 31, 0, 0, 0)]
def zb_107_29 : List zN := [(.iconst (-1), 1, 0, 0, (-1), 0), (.ireturn, 1, 0, 0, 0, 0)]
def zb_107_31 : List zN := [(.aload_n 0, 1, 0, 0, 0, 0), (.getfield 10, 3, 5, 0, 0, 0), (.getfield 110, 3, 0, 8, 0, 0), (.iload_n 1, 1, 0, 0, 0, 0), (.aaload, 1, 0, 0, 0, 0), (.iload_n 2, 1, 0, 0, 0, 0), (.iload_n 3, 1, 0, 0, 0, 0), (.invokevirtual 309, 3, 55, 2, 0, 0), (.ireturn, 1, 0, 0, 0, 0)]
def zc_107 (pc : Nat) : List zN := if pc = 0 then zb_107_0 else if pc = 29 then zb_107_29 else if pc = 31 then zb_107_31 else []
def zb_108_0 : List zN := [(.iconst 0, 1, 0, 0, 0, 0), (.istore_n 3, 1, 0, 0, 0, 0), (.iload_n 1, 1, 0, 0, 0, 0), (.ifCond .ne 14, 3, 17, 0, 0, 0), (.aload_n 0, 1, 0, 0, 0, 0), (.getfield 10, 3, 5, 0, 0, 0), (.invokevirtual 312, 3, 4, 0, 0, 0), (.istore_n 3, 1, 0, 0, 0, 0), (.goto 32, 3, 46, 0, 0, 0)]
def zb_108_17 : List zN := [(.iload_n 1, 1, 0, 0, 0, 0), (.iconst 1, 1, 0, 0, 1, 0), (.if_icmp .ne 14, 3, 33, 0, 0, 0), (.aload_n 0, 1, 0, 0, 0, 0), (.getfield 10, 3, 5, 0, 0, 0), (.invokevirtual 315, 3, 39, 0, 0, 0), (.istore_n 3, 1, 0, 0, 0, 0), (.goto 16, 3, 46, 0, 0, 0)]
def zb_108_33 : List zN := [(.iload_n 1, 1, 0, 0, 0, 0), (.iconst 2, 1, 0, 0, 2, 0), (.if_icmp .ne 11, 3, 46, 0, 0, 0), (.aload_n 0, 1, 0, 0, 0, 0), (.getfield 10, 3, 5, 0, 0, 0), (.invokevirtual 318, 3, 40, 0, 0, 0), (.istore_n 3, 1, 0, 0, 0, 0)]
def zb_108_46 : List zN := [(.iload_n 2, 1, 0, 0, 0, 0), (.iconst 0, 1, 0, 0, 0, 0), (.iload_n 3, 1, 0, 0, 0, 0), (.iconst 1, 1, 0, 0, 1, 0), (.isub, 1, 0, 0, 0, 0), (.invokestatic 31, 3, 71, 3, 0, 0), (.ifCond .eq 7, 3, 61, 0, 0, 0), (.iconst (-1), 1, 0, 0, (-1), 0), (.goto 11, 3, 69, 0, 0, 0)]
def zb_108_61 : List zN := [(.aload_n 0, 1, 0, 0, 0, 0), (.getfield 10, 3, 5, 0, 0, 0), (.iload_n 2, 1, 0, 0, 0, 0), (.invokevirtual 321, 3, 6, 1, 0, 0)]
def zb_108_69 : List zN := [(.ireturn, 1, 0, 0, 0, 0)]
def zc_108 (pc : Nat) : List zN := if pc = 0 then zb_108_0 else if pc = 17 then zb_108_17 else if pc = 33 then zb_108_33 else if pc = 46 then zb_108_46 else if pc = 61 then zb_108_61 else if pc = 69 then zb_108_69 else []
def zb_109_0 : List zN := [(.aload_n 0, 1, 0, 0, 0, 0), (.getfield 10, 3, 5, 0, 0, 0), (.iload_n 1, 1, 0, 0, 0, 0), (.invokevirtual 86, 3, 15, 1, 0, 0), (.ifCond .eq 20, 3, 28, 0, 0, 0), (.iload_n 2, 1, 0, 0, 0, 0), (.invokestatic 99, 3, 81, 1, 0, 0), (.ifCond .eq 13, 3, 28, 0, 0, 0), (.iload_n 3, 1, 0, 0, 0, 0), (.iconst 1, 1, 0, 0, 1, 0), (.bipush 90, 2, 0, 0, 90, 0), (.invokestatic 31, 3, 71, 3, 0, 0), (.ifCond .eq 5, 3, 30, 0, 0, 0)]
def zb_109_28 : List zN := [(.iconst (-1), 1, 0, 0, (-1), 0), (.ireturn, 1, 0, 0, 0, 0)]
def zb_109_30 : List zN := [(.aload_n 0, 1, 0, 0, 0, 0), (.getfield 10, 3, 5, 0, 0, 0), (.getfield 110, 3, 0, 8, 0, 0), (.iload_n 2, 1, 0, 0, 0, 0), (.aaload, 1, 0, 0, 0, 0), (.aload_n 0, 1, 0, 0, 0, 0), (.getfield 10, 3, 5, 0, 0, 0), (.getfield 122, 3, 0, 0, 0, 0), (.aload_n 0, 1, 0, 0, 0, 0), (.getfield 10, 3, 5, 0, 0, 0), (.getfield 122, 3, 0, 0, 0, 0), (.iload_n 3, 1, 0, 0, 0, 0), (.iadd, 1, 0, 0, 0, 0), (.invokevirtual 324, 3, 50, 2, 0, 0), (.istore 4, 2, 0, 0, 0, 0), (.iload 4, 2, 0, 0, 0, 0), (.ifCond .gt 7, 3, 69, 0, 0, 0), (.sipush 9999, 3, 0, 0, 9999, 0), (.ireturn, 1, 0, 0, 0, 0)]
def zb_109_69 : List zN := [(.sipush 9999, 3, 0, 0, 9999, 0), (.aload_n 0, 1, 0, 0, 0, 0), (.getfield 10, 3, 5, 0, 0, 0), (.aload_n 0, 1, 0, 0, 0, 0), (.getfield 10, 3, 5, 0, 0, 0), (.getfield 89, 3, 0, 7, 0, 0), (.iload_n 1, 1, 0, 0, 0, 0), (.aaload, 1, 0, 0, 0, 0), (.invokevirtual 223, 3, 8, 1, 0, 0), (.iload 4, 2, 0, 0, 0, 0), (.idiv, 1, 0, 0, 0, 0), (.invokestatic 327, 3, 227, 2, 0, 0), (.ireturn, 1, 0, 0, 0, 0)]
def zc_109 (pc : Nat) : List zN := if pc = 0 then zb_109_0 else if pc = 28 then zb_109_28 else if pc = 30 then zb_109_30 else if pc = 69 then zb_109_69 else []
def zb_110_0 : List zN := [(.iload_n 1, 1, 0, 0, 0, 0), (.invokestatic 99, 3, 81, 1, 0, 0), (.ifCond .eq 23, 3, 27, 0, 0, 0), (.iload_n 2, 1, 0, 0, 0, 0), (.iconst 1, 1, 0, 0, 1, 0), (.sipush 180, 3, 0, 0, 180, 0), (.invokestatic 31, 3, 71, 3, 0, 0), (.ifCond .ne 12, 3, 27, 0, 0, 0), (.iload_n 3, 1, 0, 0, 0, 0), (.iconst 0, 1, 0, 0, 0, 0), (.iconst 1, 1, 0, 0, 1, 0), (.invokestatic 31, 3, 71, 3, 0, 0), (.ifCond .eq 5, 3, 29, 0, 0, 0)]
def zb_110_27 : List zN := [(.iconst (-1), 1, 0, 0, (-1), 0), (.ireturn, 1, 0, 0, 0, 0)]
def zb_110_29 : List zN := [(.aload_n 0, 1, 0, 0, 0, 0), (.getfield 10, 3, 5, 0, 0, 0), (.getfield 110, 3, 0, 8, 0, 0), (.iload_n 1, 1, 0, 0, 0, 0), (.aaload, 1, 0, 0, 0, 0), (.astore 4, 2, 0, 0, 0, 0), (.aload 4, 2, 0, 0, 0, 0), (.aload_n 0, 1, 0, 0, 0, 0), (.getfield 10, 3, 5, 0, 0, 0), (.getfield 122, 3, 0, 0, 0, 0), (.aload_n 0, 1, 0, 0, 0, 0), (.getfield 10, 3, 5, 0, 0, 0), (.getfield 122, 3, 0, 0, 0, 0), (.sipush 400, 3, 0, 0, 400, 0), (.iadd, 1, 0, 0, 0, 0), (.iconst 1, 1, 0, 0, 1, 0), (.isub, 1, 0, 0, 0, 0), (.iload_n 2, 1, 0, 0, 0, 0), (.invokevirtual 332, 3, 56, 3, 0, 0), (.istore 5, 2, 0, 0, 0, 0), (.iload_n 3, 1, 0, 0, 0, 0), (.ifCond .ne 8, 3, 77, 0, 0, 0), (.iload 5, 2, 0, 0, 0, 0), (.goto 14, 3, 88, 0, 0, 0)]
def zb_110_77 : List zN := [(.aload 4, 2, 0, 0, 0, 0), (.iload 5, 2, 0, 0, 0, 0), (.iload 5, 2, 0, 0, 0, 0), (.iload_n 2, 1, 0, 0, 0, 0), (.iadd, 1, 0, 0, 0, 0), (.invokevirtual 324, 3, 50, 2, 0, 0)]
def zb_110_88 : List zN := [(.ireturn, 1, 0, 0, 0, 0)]
def zc_110 (pc : Nat) : List zN := if pc = 0 then zb_110_0 else if pc = 27 then zb_110_27 else if pc = 29 then zb_110_29 else if pc = 77 then zb_110_77 else if pc = 88 then zb_110_88 else []
def zb_111_0 : List zN := [(.aload_n 0, 1, 0, 0, 0, 0), (.getfield 10, 3, 5, 0, 0, 0), (.iload_n 1, 1, 0, 0, 0, 0), (.invokevirtual 53, 3, 10, 1, 0, 0), (.ifCond .ne 5, 3, 13, 0, 0, 0), (.iconst (-1), 1, 0, 0, (-1), 0), (.ireturn, 1, 0, 0, 0, 0)]
def zb_111_13 : List zN := [(.iconst 0, 1, 0, 0, 0, 0), (.istore_n 3, 1, 0, 0, 0, 0), (.iconst (-1), 1, 0, 0, (-1), 0), (.istore 4, 2, 0, 0, 0, 0), (.iconst (-1), 1, 0, 0, (-1), 0), (.istore 5, 2, 0, 0, 0, 0), (.iconst 0, 1, 0, 0, 0, 0), (.istore 6, 2, 0, 0, 0, 0), (.iconst 0, 1, 0, 0, 0, 0), (.istore 7, 2, 0, 0, 0, 0)]
def zb_111_27 : List zN := [(.iload 7, 2, 0, 0, 0, 0), (.aload_n 0, 1, 0, 0, 0, 0), (.getfield 10, 3, 5, 0, 0, 0), (.getfield 147, 3, 0, 5, 0, 0), (.if_icmp .ge 112, 3, 148, 0, 0, 0), (.aload_n 0, 1, 0, 0, 0, 0), (.getfield 10, 3, 5, 0, 0, 0), (.getfield 150, 3, 0, 9, 0, 0), (.iload 7, 2, 0, 0, 0, 0), (.aaload, 1, 0, 0, 0, 0), (.astore 8, 2, 0, 0, 0, 0), (.aload 8, 2, 0, 0, 0, 0), (.getfield 231, 3, 3, 15, 0, 0), (.iload_n 1, 1, 0, 0, 0, 0), (.iaload, 1, 0, 0, 0, 0), (.istore 9, 2, 0, 0, 0, 0), (.aload 8, 2, 0, 0, 0, 0), (.getfield 172, 3, 3, 0, 0, 0), (.iconst 1, 1, 0, 0, 1, 0), (.if_icmp .ne 76, 3, 142, 0, 0, 0), (.iload 9, 2, 0, 0, 0, 0), (.ifCond .le 71, 3, 142, 0, 0, 0), (.iinc 3 1, 3, 0, 0, 1, 0), (.iload 4, 2, 0, 0, 0, 0), (.iconst (-1), 1, 0, 0, (-1), 0), (.if_icmp .eq 23, 3, 103, 0, 0, 0), (.iload 9, 2, 0, 0, 0, 0), (.aload_n 0, 1, 0, 0, 0, 0), (.getfield 10, 3, 5, 0, 0, 0), (.getfield 150, 3, 0, 9, 0, 0), (.iload 4, 2, 0, 0, 0, 0), (.aaload, 1, 0, 0, 0, 0), (.getfield 231, 3, 3, 15, 0, 0), (.iload_n 1, 1, 0, 0, 0, 0), (.iaload, 1, 0, 0, 0, 0), (.if_icmp .le 7, 3, 107, 0, 0, 0)]
def zb_111_103 : List zN := [(.iload 7, 2, 0, 0, 0, 0), (.istore 4, 2, 0, 0, 0, 0)]
def zb_111_107 : List zN := [(.iload 5, 2, 0, 0, 0, 0), (.aload 8, 2, 0, 0, 0, 0), (.invokevirtual 247, 3, 60, 0, 0, 0), (.invokestatic 335, 3, 226, 2, 0, 0), (.istore 5, 2, 0, 0, 0, 0), (.iload 6, 2, 0, 0, 0, 0), (.aload_n 0, 1, 0, 0, 0, 0), (.getfield 10, 3, 5, 0, 0, 0), (.aload 8, 2, 0, 0, 0, 0), (.invokevirtual 338, 3, 41, 1, 0, 0), (.ifCond .eq 8, 3, 138, 0, 0, 0), (.iload 9, 2, 0, 0, 0, 0), (.goto 4, 3, 139, 0, 0, 0)]
def zb_111_138 : List zN := [(.iconst 0, 1, 0, 0, 0, 0)]
def zb_111_139 : List zN := [(.iadd, 1, 0, 0, 0, 0), (.istore 6, 2, 0, 0, 0, 0)]
def zb_111_142 : List zN := [(.iinc 7 1, 3, 0, 0, 1, 0), (.goto (-118), 3, 27, 0, 0, 0)]
def zb_111_148 : List zN := [(.iload_n 2, 1, 0, 0, 0, 0), (.tableswitch 42 0 3 #[31, 33, 36, 39], 31, 191, 0, 0, 0)]
def zb_111_180 : List zN := [(.iload_n 3, 1, 0, 0, 0, 0), (.ireturn, 1, 0, 0, 0, 0)]
def zb_111_182 : List zN := [(.iload 4, 2, 0, 0, 0, 0), (.ireturn, 1, 0, 0, 0, 0)]
def zb_111_185 : List zN := [(.iload 5, 2, 0, 0, 0, 0), (.ireturn, 1, 0, 0, 0, 0)]
def zb_111_188 : List zN := [(.iload 6, 2, 0, 0, 0, 0), (.ireturn, 1, 0, 0, 0, 0)]
def zb_111_191 : List zN := [(.iconst (-1), 1, 0, 0, (-1), 0), (.ireturn, 1, 0, 0, 0, 0)]
def zc_111 (pc : Nat) : List zN := if pc = 0 then zb_111_0 else if pc = 13 then zb_111_13 else if pc = 27 then zb_111_27 else if pc = 103 then zb_111_103 else if pc = 107 then zb_111_107 else if pc = 138 then zb_111_138 else if pc = 139 then zb_111_139 else if pc = 142 then zb_111_142 else if pc = 148 then zb_111_148 else if pc = 180 then zb_111_180 else if pc = 182 then zb_111_182 else if pc = 185 then zb_111_185 else if pc = 188 then zb_111_188 else if pc = 191 then zb_111_191 else []
def zb_112_0 : List zN := [(.aload_n 0, 1, 0, 0, 0, 0), (.getfield 10, 3, 5, 0, 0, 0), (.iload_n 1, 1, 0, 0, 0, 0), (.invokevirtual 53, 3, 10, 1, 0, 0), (.ifCond .eq 13, 3, 21, 0, 0, 0), (.iload_n 2, 1, 0, 0, 0, 0), (.iconst 1, 1, 0, 0, 1, 0), (.ldc 30, 2, 0, 0, 9999999, 0), (.invokestatic 31, 3, 71, 3, 0, 0), (.ifCond .eq 5, 3, 23, 0, 0, 0)]
def zb_112_21 : List zN := [(.iconst (-1), 1, 0, 0, (-1), 0), (.ireturn, 1, 0, 0, 0, 0)]
def zb_112_23 : List zN := [(.aload_n 0, 1, 0, 0, 0, 0), (.invokevirtual 125, 3, 84, 0, 0, 0), (.astore_n 3, 1, 0, 0, 0, 0), (.aload_n 3, 1, 0, 0, 0, 0), (.getfield 57, 3, 0, 6, 0, 0), (.iload_n 1, 1, 0, 0, 0, 0), (.aaload, 1, 0, 0, 0, 0), (.dup, 1, 0, 0, 0, 0), (.getfield 69, 3, 1, 0, 0, 0), (.iload_n 2, 1, 0, 0, 0, 0), (.iadd, 1, 0, 0, 0, 0), (.putfield 69, 3, 1, 0, 0, 0), (.aload_n 3, 1, 0, 0, 0, 0), (.invokevirtual 341, 3, 3, 0, 0, 0), (.aload_n 3, 1, 0, 0, 0, 0), (.iconst 1, 1, 0, 0, 1, 0), (.invokevirtual 181, 3, 20, 1, 0, 0), (.aload_n 0, 1, 0, 0, 0, 0), (.getfield 10, 3, 5, 0, 0, 0), (.iconst 1, 1, 0, 0, 1, 0), (.invokevirtual 181, 3, 20, 1, 0, 0), (.isub, 1, 0, 0, 0, 0), (.ireturn, 1, 0, 0, 0, 0)]
def zc_112 (pc : Nat) : List zN := if pc = 0 then zb_112_0 else if pc = 21 then zb_112_21 else if pc = 23 then zb_112_23 else []
def zb_113_0 : List zN := [(.aload_n 0, 1, 0, 0, 0, 0), (.getfield 10, 3, 5, 0, 0, 0), (.iload_n 1, 1, 0, 0, 0, 0), (.invokevirtual 53, 3, 10, 1, 0, 0), (.ifCond .eq 13, 3, 21, 0, 0, 0), (.aload_n 0, 1, 0, 0, 0, 0), (.getfield 10, 3, 5, 0, 0, 0), (.invokevirtual 312, 3, 4, 0, 0, 0), (.ifCond .ne 5, 3, 23, 0, 0, 0)]
def zb_113_21 : List zN := [(.iconst (-1), 1, 0, 0, (-1), 0), (.ireturn, 1, 0, 0, 0, 0)]
def zb_113_23 : List zN := [(.aload_n 0, 1, 0, 0, 0, 0), (.getfield 10, 3, 5, 0, 0, 0), (.getfield 150, 3, 0, 9, 0, 0), (.aload_n 0, 1, 0, 0, 0, 0), (.getfield 10, 3, 5, 0, 0, 0), (.iconst 0, 1, 0, 0, 0, 0), (.invokevirtual 321, 3, 6, 1, 0, 0), (.aaload, 1, 0, 0, 0, 0), (.astore_n 2, 1, 0, 0, 0, 0), (.aload_n 0, 1, 0, 0, 0, 0), (.getfield 10, 3, 5, 0, 0, 0), (.getfield 89, 3, 0, 7, 0, 0), (.aload_n 2, 1, 0, 0, 0, 0), (.getfield 169, 3, 3, 1, 0, 0), (.aaload, 1, 0, 0, 0, 0), (.astore_n 3, 1, 0, 0, 0, 0), (.aload_n 0, 1, 0, 0, 0, 0), (.getfield 10, 3, 5, 0, 0, 0), (.aload_n 2, 1, 0, 0, 0, 0), (.invokevirtual 296, 3, 7, 1, 0, 0), (.aload_n 0, 1, 0, 0, 0, 0), (.getfield 10, 3, 5, 0, 0, 0), (.aload_n 3, 1, 0, 0, 0, 0), (.invokevirtual 223, 3, 8, 1, 0, 0), (.isub, 1, 0, 0, 0, 0), (.istore 4, 2, 0, 0, 0, 0), (.iload 4, 2, 0, 0, 0, 0), (.ifCond .gt 5, 3, 79, 0, 0, 0), (.iconst 0, 1, 0, 0, 0, 0), (.ireturn, 1, 0, 0, 0, 0)]
def zb_113_79 : List zN := [(.aload_n 3, 1, 0, 0, 0, 0), (.iload_n 1, 1, 0, 0, 0, 0), (.invokevirtual 344, 3, 68, 1, 0, 0), (.ifCond .eq 15, 3, 99, 0, 0, 0), (.iload 4, 2, 0, 0, 0, 0), (.ldc 30, 2, 0, 0, 9999999, 0), (.if_icmp .gt 8, 3, 99, 0, 0, 0), (.iload 4, 2, 0, 0, 0, 0), (.goto 4, 3, 100, 0, 0, 0)]
def zb_113_99 : List zN := [(.iconst (-1), 1, 0, 0, (-1), 0)]
def zb_113_100 : List zN := [(.ireturn, 1, 0, 0, 0, 0)]
def zc_113 (pc : Nat) : List zN := if pc = 0 then zb_113_0 else if pc = 21 then zb_113_21 else if pc = 23 then zb_113_23 else if pc = 79 then zb_113_79 else if pc = 99 then zb_113_99 else if pc = 100 then zb_113_100 else []
def zb_114_0 : List zN := [(.aload_n 0, 1, 0, 0, 0, 0), (.getfield 10, 3, 5, 0, 0, 0), (.iload_n 1, 1, 0, 0, 0, 0), (.invokevirtual 53, 3, 10, 1, 0, 0), (.ifCond .eq 12, 3, 20, 0, 0, 0), (.iload_n 2, 1, 0, 0, 0, 0), (.iconst 0, 1, 0, 0, 0, 0), (.iconst 1, 1, 0, 0, 1, 0), (.invokestatic 31, 3, 71, 3, 0, 0), (.ifCond .eq 5, 3, 22, 0, 0, 0)]
def zb_114_20 : List zN := [(.iconst (-1), 1, 0, 0, (-1), 0), (.ireturn, 1, 0, 0, 0, 0)]
def zb_114_22 : List zN := [(.aload_n 0, 1, 0, 0, 0, 0), (.getfield 10, 3, 5, 0, 0, 0), (.invokevirtual 312, 3, 4, 0, 0, 0), (.istore_n 3, 1, 0, 0, 0, 0), (.iconst 0, 1, 0, 0, 0, 0), (.istore 4, 2, 0, 0, 0, 0), (.iconst 0, 1, 0, 0, 0, 0), (.istore 5, 2, 0, 0, 0, 0)]
def zb_114_36 : List zN := [(.iload 5, 2, 0, 0, 0, 0), (.iload_n 3, 1, 0, 0, 0, 0), (.if_icmp .ge 89, 3, 128, 0, 0, 0), (.iload 4, 2, 0, 0, 0, 0), (.bipush 10, 2, 0, 0, 10, 0), (.if_icmp .ge 82, 3, 128, 0, 0, 0), (.aload_n 0, 1, 0, 0, 0, 0), (.getfield 10, 3, 5, 0, 0, 0), (.getfield 150, 3, 0, 9, 0, 0), (.aload_n 0, 1, 0, 0, 0, 0), (.getfield 10, 3, 5, 0, 0, 0), (.iload 5, 2, 0, 0, 0, 0), (.invokevirtual 321, 3, 6, 1, 0, 0), (.aaload, 1, 0, 0, 0, 0), (.astore 6, 2, 0, 0, 0, 0), (.aload_n 0, 1, 0, 0, 0, 0), (.getfield 10, 3, 5, 0, 0, 0), (.getfield 89, 3, 0, 7, 0, 0), (.aload 6, 2, 0, 0, 0, 0), (.getfield 169, 3, 3, 1, 0, 0), (.aaload, 1, 0, 0, 0, 0), (.astore 7, 2, 0, 0, 0, 0), (.aload 7, 2, 0, 0, 0, 0), (.getfield 275, 3, 4, 2, 0, 0), (.iconst 1, 1, 0, 0, 1, 0), (.if_icmp .ne 33, 3, 122, 0, 0, 0), (.aload 7, 2, 0, 0, 0, 0), (.getfield 278, 3, 4, 1, 0, 0), (.iconst 0, 1, 0, 0, 0, 0), (.iaload, 1, 0, 0, 0, 0), (.iload_n 1, 1, 0, 0, 0, 0), (.if_icmp .ne 22, 3, 122, 0, 0, 0), (.aload_n 0, 1, 0, 0, 0, 0), (.getfield 27, 3, 5, 12, 0, 0), (.iload 4, 2, 0, 0, 0, 0), (.aload_n 0, 1, 0, 0, 0, 0), (.getfield 10, 3, 5, 0, 0, 0), (.aload 6, 2, 0, 0, 0, 0), (.invokevirtual 296, 3, 7, 1, 0, 0), (.iastore, 1, 0, 0, 0, 0), (.iinc 4 1, 3, 0, 0, 1, 0)]
def zb_114_122 : List zN := [(.iinc 5 1, 3, 0, 0, 1, 0), (.goto (-89), 3, 36, 0, 0, 0)]
def zb_114_128 : List zN := [(.aload_n 0, 1, 0, 0, 0, 0), (.iload 4, 2, 0, 0, 0, 0), (.aload_n 0, 1, 0, 0, 0, 0), (.getfield 10, 3, 5, 0, 0, 0), (.getfield 57, 3, 0, 6, 0, 0), (.iload_n 1, 1, 0, 0, 0, 0), (.aaload, 1, 0, 0, 0, 0), (.invokevirtual 234, 3, 47, 0, 0, 0), (.invokevirtual 347, 3, 115, 2, 0, 0), (.istore 5, 2, 0, 0, 0, 0), (.iload_n 2, 1, 0, 0, 0, 0), (.ifCond .ne 8, 3, 157, 0, 0, 0), (.iload 5, 2, 0, 0, 0, 0), (.goto 11, 3, 165, 0, 0, 0)]
def zb_114_157 : List zN := [(.aload_n 0, 1, 0, 0, 0, 0), (.iload 4, 2, 0, 0, 0, 0), (.iload 5, 2, 0, 0, 0, 0), (.invokevirtual 350, 3, 117, 2, 0, 0)]
def zb_114_165 : List zN := [(.ireturn, 1, 0, 0, 0, 0)]
def zc_114 (pc : Nat) : List zN := if pc = 0 then zb_114_0 else if pc = 20 then zb_114_20 else if pc = 22 then zb_114_22 else if pc = 36 then zb_114_36 else if pc = 122 then zb_114_122 else if pc = 128 then zb_114_128 else if pc = 157 then zb_114_157 else if pc = 165 then zb_114_165 else []
def zb_115_0 : List zN := [(.iconst 0, 1, 0, 0, 0, 0), (.istore_n 3, 1, 0, 0, 0, 0), (.iconst 0, 1, 0, 0, 0, 0), (.istore 4, 2, 0, 0, 0, 0), (.iconst 0, 1, 0, 0, 0, 0), (.istore 5, 2, 0, 0, 0, 0), (.iconst 1, 1, 0, 0, 1, 0), (.istore 6, 2, 0, 0, 0, 0)]
def zb_115_11 : List zN := [(.iload 6, 2, 0, 0, 0, 0), (.iconst 1, 1, 0, 0, 1, 0), (.iload_n 1, 1, 0, 0, 0, 0), (.ishl, 1, 0, 0, 0, 0), (.if_icmp .ge 41, 3, 57, 0, 0, 0), (.iload 5, 2, 0, 0, 0, 0), (.aload_n 0, 1, 0, 0, 0, 0), (.iload 6, 2, 0, 0, 0, 0), (.iload_n 1, 1, 0, 0, 0, 0), (.invokevirtual 403, 3, 116, 2, 0, 0), (.iadd, 1, 0, 0, 0, 0), (.istore 5, 2, 0, 0, 0, 0), (.iload 5, 2, 0, 0, 0, 0), (.iload_n 2, 1, 0, 0, 0, 0), (.if_icmp .gt 17, 3, 51, 0, 0, 0), (.iload 5, 2, 0, 0, 0, 0), (.iload 4, 2, 0, 0, 0, 0), (.if_icmp .le 10, 3, 51, 0, 0, 0), (.iload 6, 2, 0, 0, 0, 0), (.istore_n 3, 1, 0, 0, 0, 0), (.iload 5, 2, 0, 0, 0, 0), (.istore 4, 2, 0, 0, 0, 0)]
def zb_115_51 : List zN := [(.iinc 6 1, 3, 0, 0, 1, 0), (.goto (-43), 3, 11, 0, 0, 0)]
def zb_115_57 : List zN := [(.iload_n 3, 1, 0, 0, 0, 0), (.ireturn, 1, 0, 0, 0, 0)]
def zc_115 (pc : Nat) : List zN := if pc = 0 then zb_115_0 else if pc = 11 then zb_115_11 else if pc = 51 then zb_115_51 else if pc = 57 then zb_115_57 else []
def zb_116_0 : List zN := [(.iconst 0, 1, 0, 0, 0, 0), (.istore_n 3, 1, 0, 0, 0, 0), (.iconst 0, 1, 0, 0, 0, 0), (.istore 4, 2, 0, 0, 0, 0)]
def zb_116_5 : List zN := [(.iload 4, 2, 0, 0, 0, 0), (.iload_n 2, 1, 0, 0, 0, 0), (.if_icmp .ge 39, 3, 47, 0, 0, 0), (.iload_n 1, 1, 0, 0, 0, 0), (.iload 4, 2, 0, 0, 0, 0), (.ishr, 1, 0, 0, 0, 0), (.iconst 1, 1, 0, 0, 1, 0), (.iand, 1, 0, 0, 0, 0), (.iconst 1, 1, 0, 0, 1, 0), (.if_icmp .ne 13, 3, 31, 0, 0, 0), (.iload_n 3, 1, 0, 0, 0, 0), (.aload_n 0, 1, 0, 0, 0, 0), (.getfield 27, 3, 5, 12, 0, 0), (.iload 4, 2, 0, 0, 0, 0), (.iaload, 1, 0, 0, 0, 0), (.iadd, 1, 0, 0, 0, 0), (.ireturn, 1, 0, 0, 0, 0)]
def zb_116_31 : List zN := [(.iload_n 3, 1, 0, 0, 0, 0), (.aload_n 0, 1, 0, 0, 0, 0), (.getfield 27, 3, 5, 12, 0, 0), (.iload 4, 2, 0, 0, 0, 0), (.iaload, 1, 0, 0, 0, 0), (.isub, 1, 0, 0, 0, 0), (.istore_n 3, 1, 0, 0, 0, 0), (.iinc 4 1, 3, 0, 0, 1, 0), (.goto (-39), 3, 5, 0, 0, 0)]
def zb_116_47 : List zN := [(.iload_n 3, 1, 0, 0, 0, 0), (.ireturn, 1, 0, 0, 0, 0)]
def zc_116 (pc : Nat) : List zN := if pc = 0 then zb_116_0 else if pc = 5 then zb_116_5 else if pc = 31 then zb_116_31 else if pc = 47 then zb_116_47 else []
def zb_117_0 : List zN := [(.iconst 0, 1, 0, 0, 0, 0), (.istore_n 3, 1, 0, 0, 0, 0), (.iconst 0, 1, 0, 0, 0, 0), (.istore 4, 2, 0, 0, 0, 0)]
def zb_117_5 : List zN := [(.iload 4, 2, 0, 0, 0, 0), (.iload_n 1, 1, 0, 0, 0, 0), (.if_icmp .ge 29, 3, 37, 0, 0, 0), (.iload_n 2, 1, 0, 0, 0, 0), (.iload 4, 2, 0, 0, 0, 0), (.ishr, 1, 0, 0, 0, 0), (.iconst 1, 1, 0, 0, 1, 0), (.iand, 1, 0, 0, 0, 0), (.iconst 1, 1, 0, 0, 1, 0), (.if_icmp .ne 13, 3, 31, 0, 0, 0), (.iload_n 3, 1, 0, 0, 0, 0), (.aload_n 0, 1, 0, 0, 0, 0), (.getfield 27, 3, 5, 12, 0, 0), (.iload 4, 2, 0, 0, 0, 0), (.iaload, 1, 0, 0, 0, 0), (.iadd, 1, 0, 0, 0, 0), (.istore_n 3, 1, 0, 0, 0, 0)]
def zb_117_31 : List zN := [(.iinc 4 1, 3, 0, 0, 1, 0), (.goto (-29), 3, 5, 0, 0, 0)]
def zb_117_37 : List zN := [(.iload_n 3, 1, 0, 0, 0, 0), (.ireturn, 1, 0, 0, 0, 0)]
def zc_117 (pc : Nat) : List zN := if pc = 0 then zb_117_0 else if pc = 5 then zb_117_5 else if pc = 31 then zb_117_31 else if pc = 37 then zb_117_37 else []
def zb_118_0 : List zN := [(.aload_n 0, 1, 0, 0, 0, 0), (.getfield 10, 3, 5, 0, 0, 0), (.iload_n 1, 1, 0, 0, 0, 0), (.invokevirtual 86, 3, 15, 1, 0, 0), (.ifCond .eq 30, 3, 38, 0, 0, 0), (.iload_n 2, 1, 0, 0, 0, 0), (.invokestatic 99, 3, 81, 1, 0, 0), (.ifCond .eq 23, 3, 38, 0, 0, 0), (.iload_n 3, 1, 0, 0, 0, 0), (.iconst 1, 1, 0, 0, 1, 0), (.ldc 102, 2, 0, 0, 99999, 0), (.invokestatic 31, 3, 71, 3, 0, 0), (.ifCond .ne 13, 3, 38, 0, 0, 0), (.iload 4, 2, 0, 0, 0, 0), (.iconst 0, 1, 0, 0, 0, 0), (.iconst 1, 1, 0, 0, 1, 0), (.invokestatic 31, 3, 71, 3, 0, 0), (.ifCond .eq 5, 3, 40, 0, 0, 0)]
def zb_118_38 : List zN := [(.iconst (-1), 1, 0, 0, (-1), 0), (.ireturn, 1, 0, 0, 0, 0)]
def zb_118_40 : List zN := [(.bipush 12, 2, 0, 0, 12, 0), (.aload_n 0, 1, 0, 0, 0, 0), (.getfield 10, 3, 5, 0, 0, 0), (.iload_n 1, 1, 0, 0, 0, 0), (.iload_n 2, 1, 0, 0, 0, 0), (.invokevirtual 353, 3, 31, 2, 0, 0), (.invokestatic 327, 3, 227, 2, 0, 0), (.istore 5, 2, 0, 0, 0, 0), (.iconst 0, 1, 0, 0, 0, 0), (.istore 6, 2, 0, 0, 0, 0)]
def zb_118_59 : List zN := [(.iload 6, 2, 0, 0, 0, 0), (.iload 5, 2, 0, 0, 0, 0), (.if_icmp .ge 36, 3, 99, 0, 0, 0), (.aload_n 0, 1, 0, 0, 0, 0), (.getfield 27, 3, 5, 12, 0, 0), (.iload 6, 2, 0, 0, 0, 0), (.aload_n 0, 1, 0, 0, 0, 0), (.getfield 10, 3, 5, 0, 0, 0), (.getfield 150, 3, 0, 9, 0, 0), (.aload_n 0, 1, 0, 0, 0, 0), (.getfield 10, 3, 5, 0, 0, 0), (.iload 6, 2, 0, 0, 0, 0), (.invokevirtual 321, 3, 6, 1, 0, 0), (.aaload, 1, 0, 0, 0, 0), (.invokevirtual 196, 3, 59, 0, 0, 0), (.iastore, 1, 0, 0, 0, 0), (.iinc 6 1, 3, 0, 0, 1, 0), (.goto (-37), 3, 59, 0, 0, 0)]
def zb_118_99 : List zN := [(.aload_n 0, 1, 0, 0, 0, 0), (.iload 5, 2, 0, 0, 0, 0), (.iload_n 3, 1, 0, 0, 0, 0), (.invokevirtual 356, 3, 119, 2, 0, 0), (.istore 6, 2, 0, 0, 0, 0), (.iload 6, 2, 0, 0, 0, 0), (.ifCond .ne 5, 3, 115, 0, 0, 0), (.iconst (-1), 1, 0, 0, (-1), 0), (.ireturn, 1, 0, 0, 0, 0)]
def zb_118_115 : List zN := [(.iload 4, 2, 0, 0, 0, 0), (.ifCond .ne 8, 3, 125, 0, 0, 0), (.iload 6, 2, 0, 0, 0, 0), (.goto 8, 3, 130, 0, 0, 0)]
def zb_118_125 : List zN := [(.iload 6, 2, 0, 0, 0, 0), (.invokestatic 359, 3, 228, 1, 0, 0)]
def zb_118_130 : List zN := [(.ireturn, 1, 0, 0, 0, 0)]
def zc_118 (pc : Nat) : List zN := if pc = 0 then zb_118_0 else if pc = 38 then zb_118_38 else if pc = 40 then zb_118_40 else if pc = 59 then zb_118_59 else if pc = 99 then zb_118_99 else if pc = 115 then zb_118_115 else if pc = 125 then zb_118_125 else if pc = 130 then zb_118_130 else []
def zb_119_0 : List zN := [(.iconst 0, 1, 0, 0, 0, 0), (.istore_n 3, 1, 0, 0, 0, 0), (.iconst 0, 1, 0, 0, 0, 0), (.istore 4, 2, 0, 0, 0, 0), (.iconst 1, 1, 0, 0, 1, 0), (.istore 5, 2, 0, 0, 0, 0)]
def zb_119_8 : List zN := [(.iload 5, 2, 0, 0, 0, 0), (.iconst 1, 1, 0, 0, 1, 0), (.iload_n 1, 1, 0, 0, 0, 0), (.ishl, 1, 0, 0, 0, 0), (.if_icmp .ge 46, 3, 59, 0, 0, 0), (.iload 4, 2, 0, 0, 0, 0), (.aload_n 0, 1, 0, 0, 0, 0), (.iload 5, 2, 0, 0, 0, 0), (.iload_n 1, 1, 0, 0, 0, 0), (.invokevirtual 403, 3, 116, 2, 0, 0), (.iadd, 1, 0, 0, 0, 0), (.istore 4, 2, 0, 0, 0, 0), (.iload 4, 2, 0, 0, 0, 0), (.iload_n 2, 1, 0, 0, 0, 0), (.if_icmp .ne 22, 3, 53, 0, 0, 0), (.iload_n 3, 1, 0, 0, 0, 0), (.ifCond .eq 15, 3, 50, 0, 0, 0), (.iload 5, 2, 0, 0, 0, 0), (.invokestatic 359, 3, 228, 1, 0, 0), (.iload_n 3, 1, 0, 0, 0, 0), (.invokestatic 359, 3, 228, 1, 0, 0), (.if_icmp .ge 6, 3, 53, 0, 0, 0)]
def zb_119_50 : List zN := [(.iload 5, 2, 0, 0, 0, 0), (.istore_n 3, 1, 0, 0, 0, 0)]
def zb_119_53 : List zN := [(.iinc 5 1, 3, 0, 0, 1, 0), (.goto (-48), 3, 8, 0, 0, 0)]
def zb_119_59 : List zN := [(.iload_n 3, 1, 0, 0, 0, 0), (.ireturn, 1, 0, 0, 0, 0)]
def zc_119 (pc : Nat) : List zN := if pc = 0 then zb_119_0 else if pc = 8 then zb_119_8 else if pc = 50 then zb_119_50 else if pc = 53 then zb_119_53 else if pc = 59 then zb_119_59 else []
def zb_120_0 : List zN := [(.iload_n 1, 1, 0, 0, 0, 0), (.iconst 1, 1, 0, 0, 1, 0), (.bipush 90, 2, 0, 0, 90, 0), (.invokestatic 31, 3, 71, 3, 0, 0), (.ifCond .ne 27, 3, 34, 0, 0, 0), (.aload_n 0, 1, 0, 0, 0, 0), (.getfield 10, 3, 5, 0, 0, 0), (.getfield 122, 3, 0, 0, 0, 0), (.iload_n 1, 1, 0, 0, 0, 0), (.iadd, 1, 0, 0, 0, 0), (.sipush 9999, 3, 0, 0, 9999, 0), (.if_icmp .gt 12, 3, 34, 0, 0, 0), (.iload_n 2, 1, 0, 0, 0, 0), (.iconst 0, 1, 0, 0, 0, 0), (.iconst 3, 1, 0, 0, 3, 0), (.invokestatic 31, 3, 71, 3, 0, 0), (.ifCond .eq 5, 3, 36, 0, 0, 0)]
def zb_120_34 : List zN := [(.iconst (-1), 1, 0, 0, (-1), 0), (.ireturn, 1, 0, 0, 0, 0)]
def zb_120_36 : List zN := [(.aload_n 0, 1, 0, 0, 0, 0), (.invokevirtual 125, 3, 84, 0, 0, 0), (.astore_n 3, 1, 0, 0, 0, 0), (.aload_n 3, 1, 0, 0, 0, 0), (.iload_n 1, 1, 0, 0, 0, 0), (.invokevirtual 250, 3, 37, 1, 0, 0), (.istore 4, 2, 0, 0, 0, 0), (.iload_n 2, 1, 0, 0, 0, 0), (.tableswitch 41 0 2 #[27, 32, 35], 27, 90, 0, 0, 0)]
def zb_120_76 : List zN := [(.aload_n 3, 1, 0, 0, 0, 0), (.invokevirtual 364, 3, 42, 0, 0, 0), (.ireturn, 1, 0, 0, 0, 0)]
def zb_120_81 : List zN := [(.iload 4, 2, 0, 0, 0, 0), (.ireturn, 1, 0, 0, 0, 0)]
def zb_120_84 : List zN := [(.aload_n 3, 1, 0, 0, 0, 0), (.iconst 0, 1, 0, 0, 0, 0), (.invokevirtual 181, 3, 20, 1, 0, 0), (.ireturn, 1, 0, 0, 0, 0)]
def zb_120_90 : List zN := [(.aload_n 3, 1, 0, 0, 0, 0), (.invokevirtual 367, 3, 43, 0, 0, 0), (.ireturn, 1, 0, 0, 0, 0)]
def zc_120 (pc : Nat) : List zN := if pc = 0 then zb_120_0 else if pc = 34 then zb_120_34 else if pc = 36 then zb_120_36 else if pc = 76 then zb_120_76 else if pc = 81 then zb_120_81 else if pc = 84 then zb_120_84 else if pc = 90 then zb_120_90 else []
def zb_121_0 : List zN := [(.aload_n 0, 1, 0, 0, 0, 0), (.getfield 10, 3, 5, 0, 0, 0), (.iload_n 1, 1, 0, 0, 0, 0), (.invokevirtual 166, 3, 19, 1, 0, 0), (.ifCond .ne 5, 3, 13, 0, 0, 0), (.iconst (-1), 1, 0, 0, (-1), 0), (.ireturn, 1, 0, 0, 0, 0)]
def zb_121_13 : List zN := [(.aload_n 0, 1, 0, 0, 0, 0), (.getfield 10, 3, 5, 0, 0, 0), (.getfield 150, 3, 0, 9, 0, 0), (.iload_n 1, 1, 0, 0, 0, 0), (.aaload, 1, 0, 0, 0, 0), (.astore 4, 2, 0, 0, 0, 0), (.aload 4, 2, 0, 0, 0, 0), (.getfield 172, 3, 3, 0, 0, 0), (.iconst 1, 1, 0, 0, 1, 0), (.if_icmp .ne 29, 3, 59, 0, 0, 0), (.iload_n 2, 1, 0, 0, 0, 0), (.iconst 0, 1, 0, 0, 0, 0), (.aload 4, 2, 0, 0, 0, 0), (.invokevirtual 196, 3, 59, 0, 0, 0), (.invokestatic 31, 3, 71, 3, 0, 0), (.ifCond .ne 16, 3, 59, 0, 0, 0), (.aload_n 0, 1, 0, 0, 0, 0), (.getfield 10, 3, 5, 0, 0, 0), (.aload 4, 2, 0, 0, 0, 0), (.iload_n 3, 1, 0, 0, 0, 0), (.invokevirtual 188, 3, 21, 2, 0, 0), (.ifCond .ne 5, 3, 61, 0, 0, 0)]
def zb_121_59 : List zN := [(.iconst (-1), 1, 0, 0, (-1), 0), (.ireturn, 1, 0, 0, 0, 0)]
def zb_121_61 : List zN := [(.aload 4, 2, 0, 0, 0, 0), (.invokevirtual 196, 3, 59, 0, 0, 0), (.iload_n 2, 1, 0, 0, 0, 0), (.isub, 1, 0, 0, 0, 0), (.istore 5, 2, 0, 0, 0, 0), (.aload_n 0, 1, 0, 0, 0, 0), (.getfield 10, 3, 5, 0, 0, 0), (.aload 4, 2, 0, 0, 0, 0), (.iload 5, 2, 0, 0, 0, 0), (.aload_n 0, 1, 0, 0, 0, 0), (.getfield 10, 3, 5, 0, 0, 0), (.aload 4, 2, 0, 0, 0, 0), (.iload 5, 2, 0, 0, 0, 0), (.invokevirtual 370, 3, 25, 2, 0, 0), (.isub, 1, 0, 0, 0, 0), (.iload_n 3, 1, 0, 0, 0, 0), (.invokevirtual 374, 3, 26, 3, 0, 0), (.ireturn, 1, 0, 0, 0, 0)]
def zc_121 (pc : Nat) : List zN := if pc = 0 then zb_121_0 else if pc = 13 then zb_121_13 else if pc = 59 then zb_121_59 else if pc = 61 then zb_121_61 else []
def zb_122_0 : List zN := [(.aload_n 0, 1, 0, 0, 0, 0), (.getfield 10, 3, 5, 0, 0, 0), (.iload_n 1, 1, 0, 0, 0, 0), (.invokevirtual 166, 3, 19, 1, 0, 0), (.ifCond .eq 12, 3, 20, 0, 0, 0), (.iload_n 2, 1, 0, 0, 0, 0), (.iconst 0, 1, 0, 0, 0, 0), (.iconst 1, 1, 0, 0, 1, 0), (.invokestatic 31, 3, 71, 3, 0, 0), (.ifCond .eq 5, 3, 22, 0, 0, 0)]
def zb_122_20 : List zN := [(.iconst (-1), 1, 0, 0, (-1), 0), (.ireturn, 1, 0, 0, 0, 0)]
def zb_122_22 : List zN := [(.aload_n 0, 1, 0, 0, 0, 0), (.getfield 10, 3, 5, 0, 0, 0), (.getfield 150, 3, 0, 9, 0, 0), (.iload_n 1, 1, 0, 0, 0, 0), (.aaload, 1, 0, 0, 0, 0), (.astore_n 3, 1, 0, 0, 0, 0), (.aload_n 3, 1, 0, 0, 0, 0), (.getfield 172, 3, 3, 0, 0, 0), (.iconst 1, 1, 0, 0, 1, 0), (.if_icmp .eq 5, 3, 42, 0, 0, 0), (.iconst (-1), 1, 0, 0, (-1), 0), (.ireturn, 1, 0, 0, 0, 0)]
def zb_122_42 : List zN := [(.aload_n 0, 1, 0, 0, 0, 0), (.getfield 10, 3, 5, 0, 0, 0), (.getfield 110, 3, 0, 8, 0, 0), (.aload_n 3, 1, 0, 0, 0, 0), (.getfield 175, 3, 3, 3, 0, 0), (.aaload, 1, 0, 0, 0, 0), (.aload_n 3, 1, 0, 0, 0, 0), (.getfield 281, 3, 3, 7, 0, 0), (.aload_n 0, 1, 0, 0, 0, 0), (.getfield 10, 3, 5, 0, 0, 0), (.aload_n 3, 1, 0, 0, 0, 0), (.invokevirtual 378, 3, 22, 1, 0, 0), (.iload_n 2, 1, 0, 0, 0, 0), (.iconst 1, 1, 0, 0, 1, 0), (.if_icmp .ne 7, 3, 75, 0, 0, 0), (.iconst 1, 1, 0, 0, 1, 0), (.goto 4, 3, 76, 0, 0, 0)]
def zb_122_75 : List zN := [(.iconst 0, 1, 0, 0, 0, 0)]
def zb_122_76 : List zN := [(.invokevirtual 381, 3, 57, 3, 0, 0), (.ireturn, 1, 0, 0, 0, 0)]
def zc_122 (pc : Nat) : List zN := if pc = 0 then zb_122_0 else if pc = 20 then zb_122_20 else if pc = 22 then zb_122_22 else if pc = 42 then zb_122_42 else if pc = 75 then zb_122_75 else if pc = 76 then zb_122_76 else []
def zb_123_0 : List zN := [(.iload_n 1, 1, 0, 0, 0, 0), (.tableswitch 199 0 18 #[91, 99, 107, 115, 123, 123, 123, 123, 123, 134, 142, 150, 158, 163, 171, 179, 184, 189, 194], 91, 200, 0, 0, 0)]
def zb_123_92 : List zN := [(.aload_n 0, 1, 0, 0, 0, 0), (.getfield 10, 3, 5, 0, 0, 0), (.getfield 122, 3, 0, 0, 0, 0), (.ireturn, 1, 0, 0, 0, 0)]
def zb_123_100 : List zN := [(.aload_n 0, 1, 0, 0, 0, 0), (.getfield 10, 3, 5, 0, 0, 0), (.getfield 39, 3, 0, 3, 0, 0), (.ireturn, 1, 0, 0, 0, 0)]
def zb_123_108 : List zN := [(.aload_n 0, 1, 0, 0, 0, 0), (.getfield 10, 3, 5, 0, 0, 0), (.getfield 79, 3, 0, 4, 0, 0), (.ireturn, 1, 0, 0, 0, 0)]
def zb_123_116 : List zN := [(.aload_n 0, 1, 0, 0, 0, 0), (.getfield 10, 3, 5, 0, 0, 0), (.getfield 147, 3, 0, 5, 0, 0), (.ireturn, 1, 0, 0, 0, 0)]
def zb_123_124 : List zN := [(.aload_n 0, 1, 0, 0, 0, 0), (.getfield 10, 3, 5, 0, 0, 0), (.iload_n 1, 1, 0, 0, 0, 0), (.iconst 4, 1, 0, 0, 4, 0), (.isub, 1, 0, 0, 0, 0), (.invokevirtual 181, 3, 20, 1, 0, 0), (.ireturn, 1, 0, 0, 0, 0)]
def zb_123_135 : List zN := [(.aload_n 0, 1, 0, 0, 0, 0), (.getfield 10, 3, 5, 0, 0, 0), (.invokevirtual 367, 3, 43, 0, 0, 0), (.ireturn, 1, 0, 0, 0, 0)]
def zb_123_143 : List zN := [(.aload_n 0, 1, 0, 0, 0, 0), (.getfield 10, 3, 5, 0, 0, 0), (.invokevirtual 364, 3, 42, 0, 0, 0), (.ireturn, 1, 0, 0, 0, 0)]
def zb_123_151 : List zN := [(.aload_n 0, 1, 0, 0, 0, 0), (.getfield 10, 3, 5, 0, 0, 0), (.invokevirtual 385, 3, 44, 0, 0, 0), (.ireturn, 1, 0, 0, 0, 0)]
def zb_123_159 : List zN := [(.aload_n 0, 1, 0, 0, 0, 0), (.getfield 253, 3, 5, 6, 0, 0), (.ireturn, 1, 0, 0, 0, 0)]
def zb_123_164 : List zN := [(.aload_n 0, 1, 0, 0, 0, 0), (.getfield 10, 3, 5, 0, 0, 0), (.getfield 141, 3, 0, 1, 0, 0), (.ireturn, 1, 0, 0, 0, 0)]
def zb_123_172 : List zN := [(.aload_n 0, 1, 0, 0, 0, 0), (.getfield 10, 3, 5, 0, 0, 0), (.getfield 144, 3, 0, 2, 0, 0), (.ireturn, 1, 0, 0, 0, 0)]
def zb_123_180 : List zN := [(.aload_n 0, 1, 0, 0, 0, 0), (.getfield 388, 3, 5, 8, 0, 0), (.ireturn, 1, 0, 0, 0, 0)]
def zb_123_185 : List zN := [(.aload_n 0, 1, 0, 0, 0, 0), (.getfield 391, 3, 5, 9, 0, 0), (.ireturn, 1, 0, 0, 0, 0)]
def zb_123_190 : List zN := [(.aload_n 0, 1, 0, 0, 0, 0), (.getfield 394, 3, 5, 10, 0, 0), (.ireturn, 1, 0, 0, 0, 0)]
def zb_123_195 : List zN := [(.aload_n 0, 1, 0, 0, 0, 0), (.getfield 397, 3, 5, 11, 0, 0), (.ireturn, 1, 0, 0, 0, 0)]
def zb_123_200 : List zN := [(.iconst (-1), 1, 0, 0, (-1), 0), (.ireturn, 1, 0, 0, 0, 0)]
def zc_123 (pc : Nat) : List zN := if pc = 0 then zb_123_0 else if pc = 92 then zb_123_92 else if pc = 100 then zb_123_100 else if pc = 108 then zb_123_108 else if pc = 116 then zb_123_116 else if pc = 124 then zb_123_124 else if pc = 135 then zb_123_135 else if pc = 143 then zb_123_143 else if pc = 151 then zb_123_151 else if pc = 159 then zb_123_159 else if pc = 164 then zb_123_164 else if pc = 172 then zb_123_172 else if pc = 180 then zb_123_180 else if pc = 185 then zb_123_185 else if pc = 190 then zb_123_190 else if pc = 195 then zb_123_195 else if pc = 200 then zb_123_200 else []
def zb_124_0 : List zN := [(.aload_n 0, 1, 0, 0, 0, 0), (.getfield 263, 3, 5, 7, 0, 0), (.ireturn, 1, 0, 0, 0, 0)]
def zc_124 (pc : Nat) : List zN := if pc = 0 then zb_124_0 else []
def zb_125_0 : List zN := [(.aload_n 0, 1, 0, 0, 0, 0), (.iconst 0, 1, 0, 0, 0, 0), (.putfield 51, 3, 6, 0, 0, 0), (.aload_n 0, 1, 0, 0, 0, 0), (.getfield 58, 3, 6, 8, 0, 0), (.ifCond .ne 10, 3, 19, 0, 0, 0), (.aload_n 0, 1, 0, 0, 0, 0), (.bipush (-4), 2, 0, 0, (-4), 0), (.invokevirtual 68, 3, 126, 1, 0, 0), (.ireturn, 1, 0, 0, 0, 0)]
def zb_125_19 : List zN := [(.aload_n 0, 1, 0, 0, 0, 0), (.dup, 1, 0, 0, 0, 0), (.getfield 58, 3, 6, 8, 0, 0), (.iconst 1, 1, 0, 0, 1, 0), (.isub, 1, 0, 0, 0, 0), (.putfield 58, 3, 6, 8, 0, 0), (.aload_n 0, 1, 0, 0, 0, 0), (.aload_n 0, 1, 0, 0, 0, 0), (.getfield 20, 3, 6, 5, 0, 0), (.aload_n 0, 1, 0, 0, 0, 0), (.getfield 23, 3, 6, 6, 0, 0), (.aload_n 0, 1, 0, 0, 0, 0), (.getfield 58, 3, 6, 8, 0, 0), (.invokevirtual 65, 3, 127, 3, 0, 0), (.aload_n 0, 1, 0, 0, 0, 0), (.aload_n 0, 1, 0, 0, 0, 0), (.getfield 26, 3, 6, 7, 0, 0), (.aload_n 0, 1, 0, 0, 0, 0), (.getfield 58, 3, 6, 8, 0, 0), (.iaload, 1, 0, 0, 0, 0), (.invokevirtual 76, 3, 128, 1, 0, 0), (.ireturn, 1, 0, 0, 0, 0)]
def zc_125 (pc : Nat) : List zN := if pc = 0 then zb_125_0 else if pc = 19 then zb_125_19 else []
def zb_126_0 : List zN := [(.aload_n 0, 1, 0, 0, 0, 0), (.iload_n 1, 1, 0, 0, 0, 0), (.putfield 55, 3, 6, 1, 0, 0), (.aload_n 0, 1, 0, 0, 0, 0), (.getfield 7, 3, 6, 2, 0, 0), (.iload_n 1, 1, 0, 0, 0, 0), (.ineg, 1, 0, 0, 0, 0), (.dup2, 1, 0, 0, 0, 0), (.iaload, 1, 0, 0, 0, 0), (.iconst 1, 1, 0, 0, 1, 0), (.iadd, 1, 0, 0, 0, 0), (.iastore, 1, 0, 0, 0, 0), (.iload_n 1, 1, 0, 0, 0, 0), (.ireturn, 1, 0, 0, 0, 0)]
def zc_126 (pc : Nat) : List zN := if pc = 0 then zb_126_0 else []
def zb_127_0 : List zN := [(.iconst 0, 1, 0, 0, 0, 0), (.istore 4, 2, 0, 0, 0, 0)]
def zb_127_3 : List zN := [(.iload 4, 2, 0, 0, 0, 0), (.sipush 891, 3, 0, 0, 891, 0), (.if_icmp .ge 26, 3, 34, 0, 0, 0), (.aload_n 0, 1, 0, 0, 0, 0), (.getfield 13, 3, 6, 3, 0, 0), (.iload 4, 2, 0, 0, 0, 0), (.aload_n 1, 1, 0, 0, 0, 0), (.sipush 891, 3, 0, 0, 891, 0), (.iload_n 3, 1, 0, 0, 0, 0), (.imul, 1, 0, 0, 0, 0), (.iload 4, 2, 0, 0, 0, 0), (.iadd, 1, 0, 0, 0, 0), (.iaload, 1, 0, 0, 0, 0), (.iastore, 1, 0, 0, 0, 0), (.iinc 4 1, 3, 0, 0, 1, 0), (.goto (-28), 3, 3, 0, 0, 0)]
def zb_127_34 : List zN := [(.iconst 0, 1, 0, 0, 0, 0), (.istore 4, 2, 0, 0, 0, 0)]
def zb_127_37 : List zN := [(.iload 4, 2, 0, 0, 0, 0), (.bipush 88, 2, 0, 0, 88, 0), (.if_icmp .ge 25, 3, 66, 0, 0, 0), (.aload_n 0, 1, 0, 0, 0, 0), (.getfield 16, 3, 6, 4, 0, 0), (.iload 4, 2, 0, 0, 0, 0), (.aload_n 2, 1, 0, 0, 0, 0), (.bipush 88, 2, 0, 0, 88, 0), (.iload_n 3, 1, 0, 0, 0, 0), (.imul, 1, 0, 0, 0, 0), (.iload 4, 2, 0, 0, 0, 0), (.iadd, 1, 0, 0, 0, 0), (.laload, 1, 0, 0, 0, 0), (.lastore, 1, 0, 0, 0, 0), (.iinc 4 1, 3, 0, 0, 1, 0), (.goto (-26), 3, 37, 0, 0, 0)]
def zb_127_66 : List zN := [(.return_, 1, 0, 0, 0, 0)]
def zc_127 (pc : Nat) : List zN := if pc = 0 then zb_127_0 else if pc = 3 then zb_127_3 else if pc = 34 then zb_127_34 else if pc = 37 then zb_127_37 else if pc = 66 then zb_127_66 else []
def zb_128_0 : List zN := [(.aload_n 0, 1, 0, 0, 0, 0), (.iconst 0, 1, 0, 0, 0, 0), (.putfield 55, 3, 6, 1, 0, 0), (.iload_n 1, 1, 0, 0, 0, 0), (.ireturn, 1, 0, 0, 0, 0)]
def zc_128 (pc : Nat) : List zN := if pc = 0 then zb_128_0 else []
def zb_129_0 : List zN := [(.aload_n 0, 1, 0, 0, 0, 0), (.iconst 0, 1, 0, 0, 0, 0), (.putfield 51, 3, 6, 0, 0, 0), (.iload_n 1, 1, 0, 0, 0, 0), (.i2l, 1, 0, 0, 0, 0), (.lconst 0, 1, 0, 0, 0, 0), (.lconst 1, 1, 0, 0, 0, 1), (.invokestatic 79, 3, 130, 3, 0, 0), (.ifCond .ne 9, 3, 21, 0, 0, 0), (.aload_n 0, 1, 0, 0, 0, 0), (.iconst (-1), 1, 0, 0, (-1), 0), (.invokevirtual 68, 3, 126, 1, 0, 0), (.ireturn, 1, 0, 0, 0, 0)]
def zb_129_21 : List zN := [(.aload_n 0, 1, 0, 0, 0, 0), (.aload_n 0, 1, 0, 0, 0, 0), (.getfield 29, 3, 6, 9, 0, 0), (.aload_n 0, 1, 0, 0, 0, 0), (.getfield 32, 3, 6, 10, 0, 0), (.iload_n 1, 1, 0, 0, 0, 0), (.invokevirtual 61, 3, 131, 3, 0, 0), (.aload_n 0, 1, 0, 0, 0, 0), (.getfield 35, 3, 6, 11, 0, 0), (.iload_n 1, 1, 0, 0, 0, 0), (.iconst 1, 1, 0, 0, 1, 0), (.bastore, 1, 0, 0, 0, 0), (.aload_n 0, 1, 0, 0, 0, 0), (.aload_n 0, 1, 0, 0, 0, 0), (.getfield 13, 3, 6, 3, 0, 0), (.iconst 0, 1, 0, 0, 0, 0), (.iaload, 1, 0, 0, 0, 0), (.invokevirtual 76, 3, 128, 1, 0, 0), (.ireturn, 1, 0, 0, 0, 0)]
def zc_129 (pc : Nat) : List zN := if pc = 0 then zb_129_0 else if pc = 21 then zb_129_21 else []
def zb_130_0 : List zN := [(.lload_n 0, 1, 0, 0, 0, 0), (.lload_n 2, 1, 0, 0, 0, 0), (.lcmp, 1, 0, 0, 0, 0), (.ifCond .lt 14, 3, 17, 0, 0, 0), (.lload_n 0, 1, 0, 0, 0, 0), (.lload 4, 2, 0, 0, 0, 0), (.lcmp, 1, 0, 0, 0, 0), (.ifCond .gt 7, 3, 17, 0, 0, 0), (.iconst 1, 1, 0, 0, 1, 0), (.goto 4, 3, 18, 0, 0, 0)]
def zb_130_17 : List zN := [(.iconst 0, 1, 0, 0, 0, 0)]
def zb_130_18 : List zN := [(.ireturn, 1, 0, 0, 0, 0)]
def zc_130 (pc : Nat) : List zN := if pc = 0 then zb_130_0 else if pc = 17 then zb_130_17 else if pc = 18 then zb_130_18 else []
def zb_131_0 : List zN := [(.iconst 0, 1, 0, 0, 0, 0), (.istore 4, 2, 0, 0, 0, 0)]
def zb_131_3 : List zN := [(.iload 4, 2, 0, 0, 0, 0), (.sipush 891, 3, 0, 0, 891, 0), (.if_icmp .ge 26, 3, 34, 0, 0, 0), (.aload_n 1, 1, 0, 0, 0, 0), (.sipush 891, 3, 0, 0, 891, 0), (.iload_n 3, 1, 0, 0, 0, 0), (.imul, 1, 0, 0, 0, 0), (.iload 4, 2, 0, 0, 0, 0), (.iadd, 1, 0, 0, 0, 0), (.aload_n 0, 1, 0, 0, 0, 0), (.getfield 13, 3, 6, 3, 0, 0), (.iload 4, 2, 0, 0, 0, 0), (.iaload, 1, 0, 0, 0, 0), (.iastore, 1, 0, 0, 0, 0), (.iinc 4 1, 3, 0, 0, 1, 0), (.goto (-28), 3, 3, 0, 0, 0)]
def zb_131_34 : List zN := [(.iconst 0, 1, 0, 0, 0, 0), (.istore 4, 2, 0, 0, 0, 0)]
def zb_131_37 : List zN := [(.iload 4, 2, 0, 0, 0, 0), (.bipush 88, 2, 0, 0, 88, 0), (.if_icmp .ge 25, 3, 66, 0, 0, 0), (.aload_n 2, 1, 0, 0, 0, 0), (.bipush 88, 2, 0, 0, 88, 0), (.iload_n 3, 1, 0, 0, 0, 0), (.imul, 1, 0, 0, 0, 0), (.iload 4, 2, 0, 0, 0, 0), (.iadd, 1, 0, 0, 0, 0), (.aload_n 0, 1, 0, 0, 0, 0), (.getfield 16, 3, 6, 4, 0, 0), (.iload 4, 2, 0, 0, 0, 0), (.laload, 1, 0, 0, 0, 0), (.lastore, 1, 0, 0, 0, 0), (.iinc 4 1, 3, 0, 0, 1, 0), (.goto (-26), 3, 37, 0, 0, 0)]
def zb_131_66 : List zN := [(.return_, 1, 0, 0, 0, 0)]
def zc_131 (pc : Nat) : List zN := if pc = 0 then zb_131_0 else if pc = 3 then zb_131_3 else if pc = 34 then zb_131_34 else if pc = 37 then zb_131_37 else if pc = 66 then zb_131_66 else []
def zb_132_0 : List zN := [(.aload_n 0, 1, 0, 0, 0, 0), (.iconst 0, 1, 0, 0, 0, 0), (.putfield 51, 3, 6, 0, 0, 0), (.iload_n 1, 1, 0, 0, 0, 0), (.i2l, 1, 0, 0, 0, 0), (.lconst 0, 1, 0, 0, 0, 0), (.lconst 1, 1, 0, 0, 0, 1), (.invokestatic 79, 3, 130, 3, 0, 0), (.ifCond .ne 9, 3, 21, 0, 0, 0), (.aload_n 0, 1, 0, 0, 0, 0), (.iconst (-1), 1, 0, 0, (-1), 0), (.invokevirtual 68, 3, 126, 1, 0, 0), (.ireturn, 1, 0, 0, 0, 0)]
def zb_132_21 : List zN := [(.aload_n 0, 1, 0, 0, 0, 0), (.getfield 35, 3, 6, 11, 0, 0), (.iload_n 1, 1, 0, 0, 0, 0), (.baload, 1, 0, 0, 0, 0), (.ifCond .ne 10, 3, 37, 0, 0, 0), (.aload_n 0, 1, 0, 0, 0, 0), (.bipush (-4), 2, 0, 0, (-4), 0), (.invokevirtual 68, 3, 126, 1, 0, 0), (.ireturn, 1, 0, 0, 0, 0)]
def zb_132_37 : List zN := [(.aload_n 0, 1, 0, 0, 0, 0), (.aload_n 0, 1, 0, 0, 0, 0), (.getfield 29, 3, 6, 9, 0, 0), (.aload_n 0, 1, 0, 0, 0, 0), (.getfield 32, 3, 6, 10, 0, 0), (.iload_n 1, 1, 0, 0, 0, 0), (.invokevirtual 65, 3, 127, 3, 0, 0), (.aload_n 0, 1, 0, 0, 0, 0), (.iconst 0, 1, 0, 0, 0, 0), (.putfield 58, 3, 6, 8, 0, 0), (.aload_n 0, 1, 0, 0, 0, 0), (.aload_n 0, 1, 0, 0, 0, 0), (.getfield 13, 3, 6, 3, 0, 0), (.iconst 0, 1, 0, 0, 0, 0), (.iaload, 1, 0, 0, 0, 0), (.invokevirtual 76, 3, 128, 1, 0, 0), (.ireturn, 1, 0, 0, 0, 0)]
def zc_132 (pc : Nat) : List zN := if pc = 0 then zb_132_0 else if pc = 21 then zb_132_21 else if pc = 37 then zb_132_37 else []
def zb_133_0 : List zN := [(.aload_n 0, 1, 0, 0, 0, 0), (.iconst 0, 1, 0, 0, 0, 0), (.putfield 51, 3, 6, 0, 0, 0), (.iload_n 1, 1, 0, 0, 0, 0), (.i2l, 1, 0, 0, 0, 0), (.lconst 0, 1, 0, 0, 0, 0), (.ldc2_w 164, 3, 0, 0, 0, 9999999), (.invokestatic 79, 3, 130, 3, 0, 0), (.ifCond .ne 9, 3, 23, 0, 0, 0), (.aload_n 0, 1, 0, 0, 0, 0), (.iconst (-1), 1, 0, 0, (-1), 0), (.invokevirtual 68, 3, 126, 1, 0, 0), (.ireturn, 1, 0, 0, 0, 0)]
def zb_133_23 : List zN := [(.aload_n 0, 1, 0, 0, 0, 0), (.getfield 13, 3, 6, 3, 0, 0), (.iconst 1, 1, 0, 0, 1, 0), (.iaload, 1, 0, 0, 0, 0), (.istore_n 2, 1, 0, 0, 0, 0), (.iload_n 2, 1, 0, 0, 0, 0), (.iconst 4, 1, 0, 0, 4, 0), (.if_icmp .ne 10, 3, 42, 0, 0, 0), (.aload_n 0, 1, 0, 0, 0, 0), (.bipush (-5), 2, 0, 0, (-5), 0), (.invokevirtual 68, 3, 126, 1, 0, 0), (.ireturn, 1, 0, 0, 0, 0)]
def zb_133_42 : List zN := [(.aload_n 0, 1, 0, 0, 0, 0), (.iconst 0, 1, 0, 0, 0, 0), (.invokevirtual 72, 3, 134, 1, 0, 0), (.aload_n 0, 1, 0, 0, 0, 0), (.getfield 13, 3, 6, 3, 0, 0), (.iload_n 2, 1, 0, 0, 0, 0), (.invokestatic 95, 3, 135, 1, 0, 0), (.iload_n 1, 1, 0, 0, 0, 0), (.iastore, 1, 0, 0, 0, 0), (.aload_n 0, 1, 0, 0, 0, 0), (.getfield 13, 3, 6, 3, 0, 0), (.iconst 1, 1, 0, 0, 1, 0), (.dup2, 1, 0, 0, 0, 0), (.iaload, 1, 0, 0, 0, 0), (.iconst 1, 1, 0, 0, 1, 0), (.iadd, 1, 0, 0, 0, 0), (.iastore, 1, 0, 0, 0, 0), (.aload_n 0, 1, 0, 0, 0, 0), (.iload_n 2, 1, 0, 0, 0, 0), (.invokevirtual 161, 3, 136, 1, 0, 0), (.ireturn, 1, 0, 0, 0, 0)]
def zc_133 (pc : Nat) : List zN := if pc = 0 then zb_133_0 else if pc = 23 then zb_133_23 else if pc = 42 then zb_133_42 else []
def zb_134_0 : List zN := [(.aload_n 0, 1, 0, 0, 0, 0), (.getfield 58, 3, 6, 8, 0, 0), (.bipush 8, 2, 0, 0, 8, 0), (.if_icmp .ne 102, 3, 108, 0, 0, 0), (.iconst 0, 1, 0, 0, 0, 0), (.istore_n 2, 1, 0, 0, 0, 0)]
def zb_134_11 : List zN := [(.iload_n 2, 1, 0, 0, 0, 0), (.sipush 6237, 3, 0, 0, 6237, 0), (.if_icmp .ge 25, 3, 40, 0, 0, 0), (.aload_n 0, 1, 0, 0, 0, 0), (.getfield 20, 3, 6, 5, 0, 0), (.iload_n 2, 1, 0, 0, 0, 0), (.aload_n 0, 1, 0, 0, 0, 0), (.getfield 20, 3, 6, 5, 0, 0), (.iload_n 2, 1, 0, 0, 0, 0), (.sipush 891, 3, 0, 0, 891, 0), (.iadd, 1, 0, 0, 0, 0), (.iaload, 1, 0, 0, 0, 0), (.iastore, 1, 0, 0, 0, 0), (.iinc 2 1, 3, 0, 0, 1, 0), (.goto (-26), 3, 11, 0, 0, 0)]
def zb_134_40 : List zN := [(.iconst 0, 1, 0, 0, 0, 0), (.istore_n 2, 1, 0, 0, 0, 0)]
def zb_134_42 : List zN := [(.iload_n 2, 1, 0, 0, 0, 0), (.sipush 616, 3, 0, 0, 616, 0), (.if_icmp .ge 24, 3, 70, 0, 0, 0), (.aload_n 0, 1, 0, 0, 0, 0), (.getfield 23, 3, 6, 6, 0, 0), (.iload_n 2, 1, 0, 0, 0, 0), (.aload_n 0, 1, 0, 0, 0, 0), (.getfield 23, 3, 6, 6, 0, 0), (.iload_n 2, 1, 0, 0, 0, 0), (.bipush 88, 2, 0, 0, 88, 0), (.iadd, 1, 0, 0, 0, 0), (.laload, 1, 0, 0, 0, 0), (.lastore, 1, 0, 0, 0, 0), (.iinc 2 1, 3, 0, 0, 1, 0), (.goto (-25), 3, 42, 0, 0, 0)]
def zb_134_70 : List zN := [(.iconst 0, 1, 0, 0, 0, 0), (.istore_n 2, 1, 0, 0, 0, 0)]
def zb_134_72 : List zN := [(.iload_n 2, 1, 0, 0, 0, 0), (.bipush 7, 2, 0, 0, 7, 0), (.if_icmp .ge 23, 3, 98, 0, 0, 0), (.aload_n 0, 1, 0, 0, 0, 0), (.getfield 26, 3, 6, 7, 0, 0), (.iload_n 2, 1, 0, 0, 0, 0), (.aload_n 0, 1, 0, 0, 0, 0), (.getfield 26, 3, 6, 7, 0, 0), (.iload_n 2, 1, 0, 0, 0, 0), (.iconst 1, 1, 0, 0, 1, 0), (.iadd, 1, 0, 0, 0, 0), (.iaload, 1, 0, 0, 0, 0), (.iastore, 1, 0, 0, 0, 0), (.iinc 2 1, 3, 0, 0, 1, 0), (.goto (-23), 3, 72, 0, 0, 0)]
def zb_134_98 : List zN := [(.aload_n 0, 1, 0, 0, 0, 0), (.dup, 1, 0, 0, 0, 0), (.getfield 58, 3, 6, 8, 0, 0), (.iconst 1, 1, 0, 0, 1, 0), (.isub, 1, 0, 0, 0, 0), (.putfield 58, 3, 6, 8, 0, 0)]
def zb_134_108 : List zN := [(.aload_n 0, 1, 0, 0, 0, 0), (.aload_n 0, 1, 0, 0, 0, 0), (.getfield 20, 3, 6, 5, 0, 0), (.aload_n 0, 1, 0, 0, 0, 0), (.getfield 23, 3, 6, 6, 0, 0), (.aload_n 0, 1, 0, 0, 0, 0), (.getfield 58, 3, 6, 8, 0, 0), (.invokevirtual 61, 3, 131, 3, 0, 0), (.aload_n 0, 1, 0, 0, 0, 0), (.getfield 26, 3, 6, 7, 0, 0), (.aload_n 0, 1, 0, 0, 0, 0), (.getfield 58, 3, 6, 8, 0, 0), (.iload_n 1, 1, 0, 0, 0, 0), (.iastore, 1, 0, 0, 0, 0), (.aload_n 0, 1, 0, 0, 0, 0), (.dup, 1, 0, 0, 0, 0), (.getfield 58, 3, 6, 8, 0, 0), (.iconst 1, 1, 0, 0, 1, 0), (.iadd, 1, 0, 0, 0, 0), (.putfield 58, 3, 6, 8, 0, 0), (.return_, 1, 0, 0, 0, 0)]
def zc_134 (pc : Nat) : List zN := if pc = 0 then zb_134_0 else if pc = 11 then zb_134_11 else if pc = 40 then zb_134_40 else if pc = 42 then zb_134_42 else if pc = 70 then zb_134_70 else if pc = 72 then zb_134_72 else if pc = 98 then zb_134_98 else if pc = 108 then zb_134_108 else []
def zb_135_0 : List zN := [(.bipush 6, 2, 0, 0, 6, 0), (.iconst 3, 1, 0, 0, 3, 0), (.iload_n 0, 1, 0, 0, 0, 0), (.imul, 1, 0, 0, 0, 0), (.iadd, 1, 0, 0, 0, 0), (.ireturn, 1, 0, 0, 0, 0)]
def zc_135 (pc : Nat) : List zN := if pc = 0 then zb_135_0 else []
def zb_136_0 : List zN := [(.aload_n 0, 1, 0, 0, 0, 0), (.invokevirtual 158, 3, 137, 0, 0, 0), (.aload_n 0, 1, 0, 0, 0, 0), (.iload_n 1, 1, 0, 0, 0, 0), (.invokevirtual 76, 3, 128, 1, 0, 0), (.ireturn, 1, 0, 0, 0, 0)]
def zc_136 (pc : Nat) : List zN := if pc = 0 then zb_136_0 else []
def zb_137_0 : List zN := [(.iconst 0, 1, 0, 0, 0, 0), (.istore_n 1, 1, 0, 0, 0, 0), (.iconst 0, 1, 0, 0, 0, 0), (.istore_n 2, 1, 0, 0, 0, 0)]
def zb_137_4 : List zN := [(.iload_n 2, 1, 0, 0, 0, 0), (.bipush 10, 2, 0, 0, 10, 0), (.if_icmp .ge 122, 3, 129, 0, 0, 0), (.iconst 0, 1, 0, 0, 0, 0), (.istore_n 3, 1, 0, 0, 0, 0)]
def zb_137_12 : List zN := [(.iload_n 3, 1, 0, 0, 0, 0), (.aload_n 0, 1, 0, 0, 0, 0), (.getfield 13, 3, 6, 3, 0, 0), (.iconst 3, 1, 0, 0, 3, 0), (.iaload, 1, 0, 0, 0, 0), (.if_icmp .ge 104, 3, 123, 0, 0, 0), (.iload_n 1, 1, 0, 0, 0, 0), (.ifCond .ne 100, 3, 123, 0, 0, 0), (.iload_n 3, 1, 0, 0, 0, 0), (.invokestatic 85, 3, 138, 1, 0, 0), (.istore 4, 2, 0, 0, 0, 0), (.aload_n 0, 1, 0, 0, 0, 0), (.getfield 13, 3, 6, 3, 0, 0), (.iload 4, 2, 0, 0, 0, 0), (.bipush 6, 2, 0, 0, 6, 0), (.iadd, 1, 0, 0, 0, 0), (.iaload, 1, 0, 0, 0, 0), (.ifCond .ne 75, 3, 117, 0, 0, 0), (.aload_n 0, 1, 0, 0, 0, 0), (.getfield 13, 3, 6, 3, 0, 0), (.iload 4, 2, 0, 0, 0, 0), (.iconst 5, 1, 0, 0, 5, 0), (.iadd, 1, 0, 0, 0, 0), (.iaload, 1, 0, 0, 0, 0), (.iload_n 2, 1, 0, 0, 0, 0), (.if_icmp .ne 62, 3, 117, 0, 0, 0), (.aload_n 0, 1, 0, 0, 0, 0), (.iload_n 3, 1, 0, 0, 0, 0), (.aload_n 0, 1, 0, 0, 0, 0), (.iload_n 3, 1, 0, 0, 0, 0), (.invokevirtual 134, 3, 139, 1, 0, 0), (.invokevirtual 144, 3, 145, 2, 0, 0), (.ifCond .eq 33, 3, 101, 0, 0, 0), (.aload_n 0, 1, 0, 0, 0, 0), (.getfield 13, 3, 6, 3, 0, 0), (.iload 4, 2, 0, 0, 0, 0), (.bipush 6, 2, 0, 0, 6, 0), (.iadd, 1, 0, 0, 0, 0), (.iconst 1, 1, 0, 0, 1, 0), (.iastore, 1, 0, 0, 0, 0), (.aload_n 0, 1, 0, 0, 0, 0), (.getfield 13, 3, 6, 3, 0, 0), (.iload 4, 2, 0, 0, 0, 0), (.bipush 7, 2, 0, 0, 7, 0), (.iadd, 1, 0, 0, 0, 0), (.aload_n 0, 1, 0, 0, 0, 0), (.getfield 13, 3, 6, 3, 0, 0), (.iconst 0, 1, 0, 0, 0, 0), (.iaload, 1, 0, 0, 0, 0), (.iastore, 1, 0, 0, 0, 0), (.goto 19, 3, 117, 0, 0, 0)]
def zb_137_101 : List zN := [(.aload_n 0, 1, 0, 0, 0, 0), (.getfield 13, 3, 6, 3, 0, 0), (.iconst 5, 1, 0, 0, 5, 0), (.iaload, 1, 0, 0, 0, 0), (.iconst 1, 1, 0, 0, 1, 0), (.if_icmp .ne 7, 3, 115, 0, 0, 0), (.iconst 1, 1, 0, 0, 1, 0), (.goto 4, 3, 116, 0, 0, 0)]
def zb_137_115 : List zN := [(.iconst 0, 1, 0, 0, 0, 0)]
def zb_137_116 : List zN := [(.istore_n 1, 1, 0, 0, 0, 0)]
def zb_137_117 : List zN := [(.iinc 3 1, 3, 0, 0, 1, 0), (.goto (-108), 3, 12, 0, 0, 0)]
def zb_137_123 : List zN := [(.iinc 2 1, 3, 0, 0, 1, 0), (.goto (-122), 3, 4, 0, 0, 0)]
def zb_137_129 : List zN := [(.return_, 1, 0, 0, 0, 0)]
def zc_137 (pc : Nat) : List zN := if pc = 0 then zb_137_0 else if pc = 4 then zb_137_4 else if pc = 12 then zb_137_12 else if pc = 101 then zb_137_101 else if pc = 115 then zb_137_115 else if pc = 116 then zb_137_116 else if pc = 117 then zb_137_117 else if pc = 123 then zb_137_123 else if pc = 129 then zb_137_129 else []
def zb_138_0 : List zN := [(.sipush 211, 3, 0, 0, 211, 0), (.bipush 17, 2, 0, 0, 17, 0), (.iload_n 0, 1, 0, 0, 0, 0), (.imul, 1, 0, 0, 0, 0), (.iadd, 1, 0, 0, 0, 0), (.ireturn, 1, 0, 0, 0, 0)]
def zc_138 (pc : Nat) : List zN := if pc = 0 then zb_138_0 else []
def zb_139_0 : List zN := [(.iload_n 1, 1, 0, 0, 0, 0), (.invokestatic 85, 3, 138, 1, 0, 0), (.istore_n 2, 1, 0, 0, 0, 0), (.aload_n 0, 1, 0, 0, 0, 0), (.getfield 13, 3, 6, 3, 0, 0), (.iload_n 2, 1, 0, 0, 0, 0), (.bipush 6, 2, 0, 0, 6, 0), (.iadd, 1, 0, 0, 0, 0), (.iaload, 1, 0, 0, 0, 0), (.ifCond .ne 12, 3, 26, 0, 0, 0), (.aload_n 0, 1, 0, 0, 0, 0), (.getfield 13, 3, 6, 3, 0, 0), (.iconst 0, 1, 0, 0, 0, 0), (.iaload, 1, 0, 0, 0, 0), (.goto 12, 3, 35, 0, 0, 0)]
def zb_139_26 : List zN := [(.aload_n 0, 1, 0, 0, 0, 0), (.getfield 13, 3, 6, 3, 0, 0), (.iload_n 2, 1, 0, 0, 0, 0), (.bipush 7, 2, 0, 0, 7, 0), (.iadd, 1, 0, 0, 0, 0), (.iaload, 1, 0, 0, 0, 0)]
def zb_139_35 : List zN := [(.istore_n 3, 1, 0, 0, 0, 0), (.aload_n 0, 1, 0, 0, 0, 0), (.iload_n 1, 1, 0, 0, 0, 0), (.invokevirtual 108, 3, 140, 1, 0, 0), (.aload_n 0, 1, 0, 0, 0, 0), (.aload_n 0, 1, 0, 0, 0, 0), (.getfield 13, 3, 6, 3, 0, 0), (.iload_n 2, 1, 0, 0, 0, 0), (.iconst 2, 1, 0, 0, 2, 0), (.iadd, 1, 0, 0, 0, 0), (.iaload, 1, 0, 0, 0, 0), (.iload_n 3, 1, 0, 0, 0, 0), (.iload_n 3, 1, 0, 0, 0, 0), (.aload_n 0, 1, 0, 0, 0, 0), (.getfield 13, 3, 6, 3, 0, 0), (.iload_n 2, 1, 0, 0, 0, 0), (.iconst 4, 1, 0, 0, 4, 0), (.iadd, 1, 0, 0, 0, 0), (.iaload, 1, 0, 0, 0, 0), (.iadd, 1, 0, 0, 0, 0), (.invokevirtual 111, 3, 141, 3, 0, 0), (.imul, 1, 0, 0, 0, 0), (.ireturn, 1, 0, 0, 0, 0)]
def zc_139 (pc : Nat) : List zN := if pc = 0 then zb_139_0 else if pc = 26 then zb_139_26 else if pc = 35 then zb_139_35 else []
def zb_140_0 : List zN := [(.aload_n 0, 1, 0, 0, 0, 0), (.getfield 13, 3, 6, 3, 0, 0), (.iload_n 1, 1, 0, 0, 0, 0), (.invokestatic 85, 3, 138, 1, 0, 0), (.iconst 3, 1, 0, 0, 3, 0), (.iadd, 1, 0, 0, 0, 0), (.iaload, 1, 0, 0, 0, 0), (.aload_n 0, 1, 0, 0, 0, 0), (.getfield 13, 3, 6, 3, 0, 0), (.iload_n 1, 1, 0, 0, 0, 0), (.invokestatic 85, 3, 138, 1, 0, 0), (.bipush 8, 2, 0, 0, 8, 0), (.iadd, 1, 0, 0, 0, 0), (.iaload, 1, 0, 0, 0, 0), (.isub, 1, 0, 0, 0, 0), (.ireturn, 1, 0, 0, 0, 0)]
def zc_140 (pc : Nat) : List zN := if pc = 0 then zb_140_0 else []
def zb_141_0 : List zN := [(.iload_n 1, 1, 0, 0, 0, 0), (.invokestatic 98, 3, 142, 1, 0, 0), (.istore 4, 2, 0, 0, 0, 0), (.aload_n 0, 1, 0, 0, 0, 0), (.iload_n 1, 1, 0, 0, 0, 0), (.iload_n 2, 1, 0, 0, 0, 0), (.invokevirtual 101, 3, 143, 2, 0, 0), (.istore 5, 2, 0, 0, 0, 0), (.iconst 0, 1, 0, 0, 0, 0), (.istore 6, 2, 0, 0, 0, 0)]
def zb_141_17 : List zN := [(.iload 6, 2, 0, 0, 0, 0), (.aload_n 0, 1, 0, 0, 0, 0), (.getfield 13, 3, 6, 3, 0, 0), (.iload 4, 2, 0, 0, 0, 0), (.iconst 0, 1, 0, 0, 0, 0), (.iadd, 1, 0, 0, 0, 0), (.iaload, 1, 0, 0, 0, 0), (.if_icmp .ge 62, 3, 90, 0, 0, 0), (.aload_n 0, 1, 0, 0, 0, 0), (.getfield 13, 3, 6, 3, 0, 0), (.iload 4, 2, 0, 0, 0, 0), (.iconst 3, 1, 0, 0, 3, 0), (.iadd, 1, 0, 0, 0, 0), (.iconst 2, 1, 0, 0, 2, 0), (.iload 6, 2, 0, 0, 0, 0), (.imul, 1, 0, 0, 0, 0), (.iadd, 1, 0, 0, 0, 0), (.iaload, 1, 0, 0, 0, 0), (.i2l, 1, 0, 0, 0, 0), (.iload_n 2, 1, 0, 0, 0, 0), (.i2l, 1, 0, 0, 0, 0), (.iload_n 3, 1, 0, 0, 0, 0), (.i2l, 1, 0, 0, 0, 0), (.invokestatic 79, 3, 130, 3, 0, 0), (.ifCond .eq 27, 3, 80, 0, 0, 0), (.iload 5, 2, 0, 0, 0, 0), (.aload_n 0, 1, 0, 0, 0, 0), (.getfield 13, 3, 6, 3, 0, 0), (.iload 4, 2, 0, 0, 0, 0), (.iconst 3, 1, 0, 0, 3, 0), (.iadd, 1, 0, 0, 0, 0), (.iconst 2, 1, 0, 0, 2, 0), (.iload 6, 2, 0, 0, 0, 0), (.imul, 1, 0, 0, 0, 0), (.iadd, 1, 0, 0, 0, 0), (.iconst 1, 1, 0, 0, 1, 0), (.iadd, 1, 0, 0, 0, 0), (.iaload, 1, 0, 0, 0, 0), (.invokestatic 105, 3, 144, 2, 0, 0), (.goto 5, 3, 82, 0, 0, 0)]
def zb_141_80 : List zN := [(.iload 5, 2, 0, 0, 0, 0)]
def zb_141_82 : List zN := [(.istore 5, 2, 0, 0, 0, 0), (.iinc 6 1, 3, 0, 0, 1, 0), (.goto (-70), 3, 17, 0, 0, 0)]
def zb_141_90 : List zN := [(.iload 5, 2, 0, 0, 0, 0), (.ireturn, 1, 0, 0, 0, 0)]
def zc_141 (pc : Nat) : List zN := if pc = 0 then zb_141_0 else if pc = 17 then zb_141_17 else if pc = 80 then zb_141_80 else if pc = 82 then zb_141_82 else if pc = 90 then zb_141_90 else []
def zb_142_0 : List zN := [(.bipush 66, 2, 0, 0, 66, 0), (.bipush 29, 2, 0, 0, 29, 0), (.iload_n 0, 1, 0, 0, 0, 0), (.imul, 1, 0, 0, 0, 0), (.iadd, 1, 0, 0, 0, 0), (.ireturn, 1, 0, 0, 0, 0)]
def zc_142 (pc : Nat) : List zN := if pc = 0 then zb_142_0 else []
def zb_143_0 : List zN := [(.iload_n 1, 1, 0, 0, 0, 0), (.invokestatic 98, 3, 142, 1, 0, 0), (.istore_n 3, 1, 0, 0, 0, 0), (.iconst 0, 1, 0, 0, 0, 0), (.istore 4, 2, 0, 0, 0, 0), (.iconst (-1), 1, 0, 0, (-1), 0), (.istore 5, 2, 0, 0, 0, 0), (.iconst 0, 1, 0, 0, 0, 0), (.istore 6, 2, 0, 0, 0, 0)]
def zb_143_14 : List zN := [(.iload 6, 2, 0, 0, 0, 0), (.aload_n 0, 1, 0, 0, 0, 0), (.getfield 13, 3, 6, 3, 0, 0), (.iload_n 3, 1, 0, 0, 0, 0), (.iconst 0, 1, 0, 0, 0, 0), (.iadd, 1, 0, 0, 0, 0), (.iaload, 1, 0, 0, 0, 0), (.if_icmp .ge 58, 3, 82, 0, 0, 0), (.aload_n 0, 1, 0, 0, 0, 0), (.getfield 13, 3, 6, 3, 0, 0), (.iload_n 3, 1, 0, 0, 0, 0), (.iconst 3, 1, 0, 0, 3, 0), (.iadd, 1, 0, 0, 0, 0), (.iconst 2, 1, 0, 0, 2, 0), (.iload 6, 2, 0, 0, 0, 0), (.imul, 1, 0, 0, 0, 0), (.iadd, 1, 0, 0, 0, 0), (.iaload, 1, 0, 0, 0, 0), (.istore 7, 2, 0, 0, 0, 0), (.iload 7, 2, 0, 0, 0, 0), (.iload_n 2, 1, 0, 0, 0, 0), (.if_icmp .gt 31, 3, 76, 0, 0, 0), (.iload 7, 2, 0, 0, 0, 0), (.iload 5, 2, 0, 0, 0, 0), (.if_icmp .le 24, 3, 76, 0, 0, 0), (.iload 7, 2, 0, 0, 0, 0), (.istore 5, 2, 0, 0, 0, 0), (.aload_n 0, 1, 0, 0, 0, 0), (.getfield 13, 3, 6, 3, 0, 0), (.iload_n 3, 1, 0, 0, 0, 0), (.iconst 3, 1, 0, 0, 3, 0), (.iadd, 1, 0, 0, 0, 0), (.iconst 2, 1, 0, 0, 2, 0), (.iload 6, 2, 0, 0, 0, 0), (.imul, 1, 0, 0, 0, 0), (.iadd, 1, 0, 0, 0, 0), (.iconst 1, 1, 0, 0, 1, 0), (.iadd, 1, 0, 0, 0, 0), (.iaload, 1, 0, 0, 0, 0), (.istore 4, 2, 0, 0, 0, 0)]
def zb_143_76 : List zN := [(.iinc 6 1, 3, 0, 0, 1, 0), (.goto (-65), 3, 14, 0, 0, 0)]
def zb_143_82 : List zN := [(.iload 4, 2, 0, 0, 0, 0), (.ireturn, 1, 0, 0, 0, 0)]
def zc_143 (pc : Nat) : List zN := if pc = 0 then zb_143_0 else if pc = 14 then zb_143_14 else if pc = 76 then zb_143_76 else if pc = 82 then zb_143_82 else []
def zb_144_0 : List zN := [(.iload_n 0, 1, 0, 0, 0, 0), (.iload_n 1, 1, 0, 0, 0, 0), (.if_icmp .le 7, 3, 9, 0, 0, 0), (.iload_n 0, 1, 0, 0, 0, 0), (.goto 4, 3, 10, 0, 0, 0)]
def zb_144_9 : List zN := [(.iload_n 1, 1, 0, 0, 0, 0)]
def zb_144_10 : List zN := [(.ireturn, 1, 0, 0, 0, 0)]
def zc_144 (pc : Nat) : List zN := if pc = 0 then zb_144_0 else if pc = 9 then zb_144_9 else if pc = 10 then zb_144_10 else []
def zb_145_0 : List zN := [(.aload_n 0, 1, 0, 0, 0, 0), (.getfield 13, 3, 6, 3, 0, 0), (.iload_n 1, 1, 0, 0, 0, 0), (.invokestatic 85, 3, 138, 1, 0, 0), (.iconst 0, 1, 0, 0, 0, 0), (.iadd, 1, 0, 0, 0, 0), (.iaload, 1, 0, 0, 0, 0), (.istore_n 3, 1, 0, 0, 0, 0), (.aload_n 0, 1, 0, 0, 0, 0), (.iload_n 3, 1, 0, 0, 0, 0), (.invokevirtual 121, 3, 146, 1, 0, 0), (.iload_n 2, 1, 0, 0, 0, 0), (.if_icmp .ge 5, 3, 23, 0, 0, 0), (.iconst 0, 1, 0, 0, 0, 0), (.ireturn, 1, 0, 0, 0, 0)]
def zb_145_23 : List zN := [(.iload_n 2, 1, 0, 0, 0, 0), (.istore 4, 2, 0, 0, 0, 0), (.iconst 0, 1, 0, 0, 0, 0), (.istore 5, 2, 0, 0, 0, 0)]
def zb_145_29 : List zN := [(.iload 5, 2, 0, 0, 0, 0), (.iconst 3, 1, 0, 0, 3, 0), (.if_icmp .ge 97, 3, 129, 0, 0, 0), (.aload_n 0, 1, 0, 0, 0, 0), (.getfield 13, 3, 6, 3, 0, 0), (.iload_n 3, 1, 0, 0, 0, 0), (.invokestatic 115, 3, 147, 1, 0, 0), (.iconst 5, 1, 0, 0, 5, 0), (.iadd, 1, 0, 0, 0, 0), (.iload 5, 2, 0, 0, 0, 0), (.iadd, 1, 0, 0, 0, 0), (.iaload, 1, 0, 0, 0, 0), (.istore 6, 2, 0, 0, 0, 0), (.iload 6, 2, 0, 0, 0, 0), (.iconst (-1), 1, 0, 0, (-1), 0), (.if_icmp .ne 7, 3, 61, 0, 0, 0), (.iconst 0, 1, 0, 0, 0, 0), (.goto 14, 3, 72, 0, 0, 0)]
def zb_145_61 : List zN := [(.iload 4, 2, 0, 0, 0, 0), (.aload_n 0, 1, 0, 0, 0, 0), (.iload 6, 2, 0, 0, 0, 0), (.invokevirtual 118, 3, 148, 1, 0, 0), (.invokestatic 124, 3, 149, 2, 0, 0)]
def zb_145_72 : List zN := [(.istore 7, 2, 0, 0, 0, 0), (.iload 7, 2, 0, 0, 0, 0), (.ifCond .le 47, 3, 123, 0, 0, 0), (.aload_n 0, 1, 0, 0, 0, 0), (.getfield 13, 3, 6, 3, 0, 0), (.iload 6, 2, 0, 0, 0, 0), (.invokestatic 95, 3, 135, 1, 0, 0), (.iconst 1, 1, 0, 0, 1, 0), (.iadd, 1, 0, 0, 0, 0), (.dup2, 1, 0, 0, 0, 0), (.iaload, 1, 0, 0, 0, 0), (.iload 7, 2, 0, 0, 0, 0), (.iadd, 1, 0, 0, 0, 0), (.iastore, 1, 0, 0, 0, 0), (.aload_n 0, 1, 0, 0, 0, 0), (.getfield 13, 3, 6, 3, 0, 0), (.iload_n 1, 1, 0, 0, 0, 0), (.invokestatic 85, 3, 138, 1, 0, 0), (.bipush 13, 2, 0, 0, 13, 0), (.iadd, 1, 0, 0, 0, 0), (.iload 6, 2, 0, 0, 0, 0), (.iadd, 1, 0, 0, 0, 0), (.dup2, 1, 0, 0, 0, 0), (.iaload, 1, 0, 0, 0, 0), (.iload 7, 2, 0, 0, 0, 0), (.iadd, 1, 0, 0, 0, 0), (.iastore, 1, 0, 0, 0, 0), (.iload 4, 2, 0, 0, 0, 0), (.iload 7, 2, 0, 0, 0, 0), (.isub, 1, 0, 0, 0, 0), (.istore 4, 2, 0, 0, 0, 0)]
def zb_145_123 : List zN := [(.iinc 5 1, 3, 0, 0, 1, 0), (.goto (-97), 3, 29, 0, 0, 0)]
def zb_145_129 : List zN := [(.aload_n 0, 1, 0, 0, 0, 0), (.getfield 16, 3, 6, 4, 0, 0), (.bipush 8, 2, 0, 0, 8, 0), (.iconst 2, 1, 0, 0, 2, 0), (.iload_n 1, 1, 0, 0, 0, 0), (.imul, 1, 0, 0, 0, 0), (.iadd, 1, 0, 0, 0, 0), (.dup2, 1, 0, 0, 0, 0), (.laload, 1, 0, 0, 0, 0), (.iload_n 2, 1, 0, 0, 0, 0), (.i2l, 1, 0, 0, 0, 0), (.ladd, 1, 0, 0, 0, 0), (.lastore, 1, 0, 0, 0, 0), (.iconst 1, 1, 0, 0, 1, 0), (.ireturn, 1, 0, 0, 0, 0)]
def zc_145 (pc : Nat) : List zN := if pc = 0 then zb_145_0 else if pc = 23 then zb_145_23 else if pc = 29 then zb_145_29 else if pc = 61 then zb_145_61 else if pc = 72 then zb_145_72 else if pc = 123 then zb_145_123 else if pc = 129 then zb_145_129 else []
def zb_146_0 : List zN := [(.iconst 0, 1, 0, 0, 0, 0), (.istore_n 2, 1, 0, 0, 0, 0), (.iconst 0, 1, 0, 0, 0, 0), (.istore_n 3, 1, 0, 0, 0, 0)]
def zb_146_4 : List zN := [(.iload_n 3, 1, 0, 0, 0, 0), (.iconst 3, 1, 0, 0, 3, 0), (.if_icmp .ge 43, 3, 49, 0, 0, 0), (.aload_n 0, 1, 0, 0, 0, 0), (.getfield 13, 3, 6, 3, 0, 0), (.iload_n 1, 1, 0, 0, 0, 0), (.invokestatic 115, 3, 147, 1, 0, 0), (.iconst 5, 1, 0, 0, 5, 0), (.iadd, 1, 0, 0, 0, 0), (.iload_n 3, 1, 0, 0, 0, 0), (.iadd, 1, 0, 0, 0, 0), (.iaload, 1, 0, 0, 0, 0), (.istore 4, 2, 0, 0, 0, 0), (.iload_n 2, 1, 0, 0, 0, 0), (.iload 4, 2, 0, 0, 0, 0), (.iconst (-1), 1, 0, 0, (-1), 0), (.if_icmp .ne 7, 3, 35, 0, 0, 0), (.iconst 0, 1, 0, 0, 0, 0), (.goto 9, 3, 41, 0, 0, 0)]
def zb_146_35 : List zN := [(.aload_n 0, 1, 0, 0, 0, 0), (.iload 4, 2, 0, 0, 0, 0), (.invokevirtual 118, 3, 148, 1, 0, 0)]
def zb_146_41 : List zN := [(.iadd, 1, 0, 0, 0, 0), (.istore_n 2, 1, 0, 0, 0, 0), (.iinc 3 1, 3, 0, 0, 1, 0), (.goto (-42), 3, 4, 0, 0, 0)]
def zb_146_49 : List zN := [(.iload_n 2, 1, 0, 0, 0, 0), (.ireturn, 1, 0, 0, 0, 0)]
def zc_146 (pc : Nat) : List zN := if pc = 0 then zb_146_0 else if pc = 4 then zb_146_4 else if pc = 35 then zb_146_35 else if pc = 41 then zb_146_41 else if pc = 49 then zb_146_49 else []
def zb_147_0 : List zN := [(.bipush 18, 2, 0, 0, 18, 0), (.bipush 8, 2, 0, 0, 8, 0), (.iload_n 0, 1, 0, 0, 0, 0), (.imul, 1, 0, 0, 0, 0), (.iadd, 1, 0, 0, 0, 0), (.ireturn, 1, 0, 0, 0, 0)]
def zc_147 (pc : Nat) : List zN := if pc = 0 then zb_147_0 else []
def zb_148_0 : List zN := [(.iload_n 1, 1, 0, 0, 0, 0), (.invokestatic 95, 3, 135, 1, 0, 0), (.istore_n 2, 1, 0, 0, 0, 0), (.aload_n 0, 1, 0, 0, 0, 0), (.getfield 13, 3, 6, 3, 0, 0), (.iload_n 2, 1, 0, 0, 0, 0), (.iaload, 1, 0, 0, 0, 0), (.aload_n 0, 1, 0, 0, 0, 0), (.getfield 13, 3, 6, 3, 0, 0), (.iload_n 2, 1, 0, 0, 0, 0), (.iconst 1, 1, 0, 0, 1, 0), (.iadd, 1, 0, 0, 0, 0), (.iaload, 1, 0, 0, 0, 0), (.isub, 1, 0, 0, 0, 0), (.aload_n 0, 1, 0, 0, 0, 0), (.getfield 13, 3, 6, 3, 0, 0), (.iload_n 2, 1, 0, 0, 0, 0), (.iconst 2, 1, 0, 0, 2, 0), (.iadd, 1, 0, 0, 0, 0), (.iaload, 1, 0, 0, 0, 0), (.isub, 1, 0, 0, 0, 0), (.ireturn, 1, 0, 0, 0, 0)]
def zc_148 (pc : Nat) : List zN := if pc = 0 then zb_148_0 else []
def zb_149_0 : List zN := [(.iload_n 0, 1, 0, 0, 0, 0), (.iload_n 1, 1, 0, 0, 0, 0), (.if_icmp .ge 7, 3, 9, 0, 0, 0), (.iload_n 0, 1, 0, 0, 0, 0), (.goto 4, 3, 10, 0, 0, 0)]
def zb_149_9 : List zN := [(.iload_n 1, 1, 0, 0, 0, 0)]
def zb_149_10 : List zN := [(.ireturn, 1, 0, 0, 0, 0)]
def zc_149 (pc : Nat) : List zN := if pc = 0 then zb_149_0 else if pc = 9 then zb_149_9 else if pc = 10 then zb_149_10 else []
def zb_150_0 : List zN := [(.aload_n 0, 1, 0, 0, 0, 0), (.iconst 0, 1, 0, 0, 0, 0), (.putfield 51, 3, 6, 0, 0, 0), (.iload_n 2, 1, 0, 0, 0, 0), (.i2l, 1, 0, 0, 0, 0), (.lconst 0, 1, 0, 0, 0, 0), (.ldc2_w 164, 3, 0, 0, 0, 9999999), (.invokestatic 79, 3, 130, 3, 0, 0), (.ifCond .ne 9, 3, 23, 0, 0, 0), (.aload_n 0, 1, 0, 0, 0, 0), (.iconst (-1), 1, 0, 0, (-1), 0), (.invokevirtual 68, 3, 126, 1, 0, 0), (.ireturn, 1, 0, 0, 0, 0)]
def zb_150_23 : List zN := [(.aload_n 0, 1, 0, 0, 0, 0), (.iload_n 1, 1, 0, 0, 0, 0), (.invokevirtual 166, 3, 151, 1, 0, 0), (.ifCond .ne 10, 3, 38, 0, 0, 0), (.aload_n 0, 1, 0, 0, 0, 0), (.bipush (-2), 2, 0, 0, (-2), 0), (.invokevirtual 68, 3, 126, 1, 0, 0), (.ireturn, 1, 0, 0, 0, 0)]
def zb_150_38 : List zN := [(.iload_n 1, 1, 0, 0, 0, 0), (.invokestatic 95, 3, 135, 1, 0, 0), (.istore_n 3, 1, 0, 0, 0, 0), (.iload_n 2, 1, 0, 0, 0, 0), (.aload_n 0, 1, 0, 0, 0, 0), (.getfield 13, 3, 6, 3, 0, 0), (.iload_n 3, 1, 0, 0, 0, 0), (.iconst 1, 1, 0, 0, 1, 0), (.iadd, 1, 0, 0, 0, 0), (.iaload, 1, 0, 0, 0, 0), (.aload_n 0, 1, 0, 0, 0, 0), (.getfield 13, 3, 6, 3, 0, 0), (.iload_n 3, 1, 0, 0, 0, 0), (.iconst 2, 1, 0, 0, 2, 0), (.iadd, 1, 0, 0, 0, 0), (.iaload, 1, 0, 0, 0, 0), (.iadd, 1, 0, 0, 0, 0), (.if_icmp .ge 12, 3, 73, 0, 0, 0), (.aload_n 0, 1, 0, 0, 0, 0), (.bipush (-4), 2, 0, 0, (-4), 0), (.invokevirtual 68, 3, 126, 1, 0, 0), (.goto 10, 3, 80, 0, 0, 0)]
def zb_150_73 : List zN := [(.aload_n 0, 1, 0, 0, 0, 0), (.iload_n 3, 1, 0, 0, 0, 0), (.iload_n 2, 1, 0, 0, 0, 0), (.iconst 1, 1, 0, 0, 1, 0), (.invokevirtual 169, 3, 152, 3, 0, 0)]
def zb_150_80 : List zN := [(.ireturn, 1, 0, 0, 0, 0)]
def zc_150 (pc : Nat) : List zN := if pc = 0 then zb_150_0 else if pc = 23 then zb_150_23 else if pc = 38 then zb_150_38 else if pc = 73 then zb_150_73 else if pc = 80 then zb_150_80 else []
def zb_151_0 : List zN := [(.iload_n 1, 1, 0, 0, 0, 0), (.i2l, 1, 0, 0, 0, 0), (.lconst 0, 1, 0, 0, 0, 0), (.aload_n 0, 1, 0, 0, 0, 0), (.getfield 13, 3, 6, 3, 0, 0), (.iconst 1, 1, 0, 0, 1, 0), (.iaload, 1, 0, 0, 0, 0), (.i2l, 1, 0, 0, 0, 0), (.lconst 1, 1, 0, 0, 0, 1), (.lsub, 1, 0, 0, 0, 0), (.invokestatic 79, 3, 130, 3, 0, 0), (.ireturn, 1, 0, 0, 0, 0)]
def zc_151 (pc : Nat) : List zN := if pc = 0 then zb_151_0 else []
def zb_152_0 : List zN := [(.aload_n 0, 1, 0, 0, 0, 0), (.iload_n 3, 1, 0, 0, 0, 0), (.invokevirtual 72, 3, 134, 1, 0, 0), (.aload_n 0, 1, 0, 0, 0, 0), (.getfield 13, 3, 6, 3, 0, 0), (.iload_n 1, 1, 0, 0, 0, 0), (.iaload, 1, 0, 0, 0, 0), (.istore 4, 2, 0, 0, 0, 0), (.aload_n 0, 1, 0, 0, 0, 0), (.getfield 13, 3, 6, 3, 0, 0), (.iload_n 1, 1, 0, 0, 0, 0), (.iload_n 2, 1, 0, 0, 0, 0), (.iastore, 1, 0, 0, 0, 0), (.aload_n 0, 1, 0, 0, 0, 0), (.iload 4, 2, 0, 0, 0, 0), (.invokevirtual 161, 3, 136, 1, 0, 0), (.ireturn, 1, 0, 0, 0, 0)]
def zc_152 (pc : Nat) : List zN := if pc = 0 then zb_152_0 else []
def zb_153_0 : List zN := [(.aload_n 0, 1, 0, 0, 0, 0), (.iconst 0, 1, 0, 0, 0, 0), (.putfield 51, 3, 6, 0, 0, 0), (.iload_n 2, 1, 0, 0, 0, 0), (.i2l, 1, 0, 0, 0, 0), (.lconst 1, 1, 0, 0, 0, 1), (.ldc2_w 164, 3, 0, 0, 0, 9999999), (.invokestatic 79, 3, 130, 3, 0, 0), (.ifCond .ne 9, 3, 23, 0, 0, 0), (.aload_n 0, 1, 0, 0, 0, 0), (.iconst (-1), 1, 0, 0, (-1), 0), (.invokevirtual 68, 3, 126, 1, 0, 0), (.ireturn, 1, 0, 0, 0, 0)]
def zb_153_23 : List zN := [(.aload_n 0, 1, 0, 0, 0, 0), (.iload_n 1, 1, 0, 0, 0, 0), (.invokevirtual 166, 3, 151, 1, 0, 0), (.ifCond .ne 10, 3, 38, 0, 0, 0), (.aload_n 0, 1, 0, 0, 0, 0), (.bipush (-2), 2, 0, 0, (-2), 0), (.invokevirtual 68, 3, 126, 1, 0, 0), (.ireturn, 1, 0, 0, 0, 0)]
def zb_153_38 : List zN := [(.iload_n 1, 1, 0, 0, 0, 0), (.invokestatic 95, 3, 135, 1, 0, 0), (.istore_n 3, 1, 0, 0, 0, 0), (.iload_n 2, 1, 0, 0, 0, 0), (.aload_n 0, 1, 0, 0, 0, 0), (.getfield 13, 3, 6, 3, 0, 0), (.iload_n 3, 1, 0, 0, 0, 0), (.iconst 2, 1, 0, 0, 2, 0), (.iadd, 1, 0, 0, 0, 0), (.iaload, 1, 0, 0, 0, 0), (.if_icmp .le 10, 3, 62, 0, 0, 0), (.aload_n 0, 1, 0, 0, 0, 0), (.bipush (-4), 2, 0, 0, (-4), 0), (.invokevirtual 68, 3, 126, 1, 0, 0), (.ireturn, 1, 0, 0, 0, 0)]
def zb_153_62 : List zN := [(.aload_n 0, 1, 0, 0, 0, 0), (.iconst 2, 1, 0, 0, 2, 0), (.invokevirtual 72, 3, 134, 1, 0, 0), (.aload_n 0, 1, 0, 0, 0, 0), (.getfield 13, 3, 6, 3, 0, 0), (.iload_n 3, 1, 0, 0, 0, 0), (.iconst 2, 1, 0, 0, 2, 0), (.iadd, 1, 0, 0, 0, 0), (.dup2, 1, 0, 0, 0, 0), (.iaload, 1, 0, 0, 0, 0), (.iload_n 2, 1, 0, 0, 0, 0), (.isub, 1, 0, 0, 0, 0), (.iastore, 1, 0, 0, 0, 0), (.aload_n 0, 1, 0, 0, 0, 0), (.getfield 16, 3, 6, 4, 0, 0), (.iconst 2, 1, 0, 0, 2, 0), (.iload_n 1, 1, 0, 0, 0, 0), (.imul, 1, 0, 0, 0, 0), (.iconst 1, 1, 0, 0, 1, 0), (.iadd, 1, 0, 0, 0, 0), (.dup2, 1, 0, 0, 0, 0), (.laload, 1, 0, 0, 0, 0), (.iload_n 2, 1, 0, 0, 0, 0), (.i2l, 1, 0, 0, 0, 0), (.ladd, 1, 0, 0, 0, 0), (.lastore, 1, 0, 0, 0, 0), (.aload_n 0, 1, 0, 0, 0, 0), (.getfield 13, 3, 6, 3, 0, 0), (.iload_n 3, 1, 0, 0, 0, 0), (.iconst 2, 1, 0, 0, 2, 0), (.iadd, 1, 0, 0, 0, 0), (.iaload, 1, 0, 0, 0, 0), (.istore 4, 2, 0, 0, 0, 0), (.aload_n 0, 1, 0, 0, 0, 0), (.iload 4, 2, 0, 0, 0, 0), (.invokevirtual 161, 3, 136, 1, 0, 0), (.ireturn, 1, 0, 0, 0, 0)]
def zc_153 (pc : Nat) : List zN := if pc = 0 then zb_153_0 else if pc = 23 then zb_153_23 else if pc = 38 then zb_153_38 else if pc = 62 then zb_153_62 else []
def zb_154_0 : List zN := [(.aload_n 0, 1, 0, 0, 0, 0), (.iconst 0, 1, 0, 0, 0, 0), (.putfield 51, 3, 6, 0, 0, 0), (.aload_n 0, 1, 0, 0, 0, 0), (.iload_n 1, 1, 0, 0, 0, 0), (.iload_n 2, 1, 0, 0, 0, 0), (.iload_n 3, 1, 0, 0, 0, 0), (.invokevirtual 172, 3, 155, 3, 0, 0), (.ifCond .ne 9, 3, 21, 0, 0, 0), (.aload_n 0, 1, 0, 0, 0, 0), (.iconst (-1), 1, 0, 0, (-1), 0), (.invokevirtual 68, 3, 126, 1, 0, 0), (.ireturn, 1, 0, 0, 0, 0)]
def zb_154_21 : List zN := [(.aload_n 0, 1, 0, 0, 0, 0), (.getfield 13, 3, 6, 3, 0, 0), (.iconst 2, 1, 0, 0, 2, 0), (.iaload, 1, 0, 0, 0, 0), (.istore 4, 2, 0, 0, 0, 0), (.iload 4, 2, 0, 0, 0, 0), (.bipush 6, 2, 0, 0, 6, 0), (.if_icmp .ne 10, 3, 43, 0, 0, 0), (.aload_n 0, 1, 0, 0, 0, 0), (.bipush (-5), 2, 0, 0, (-5), 0), (.invokevirtual 68, 3, 126, 1, 0, 0), (.ireturn, 1, 0, 0, 0, 0)]
def zb_154_43 : List zN := [(.aload_n 0, 1, 0, 0, 0, 0), (.iconst 3, 1, 0, 0, 3, 0), (.invokevirtual 72, 3, 134, 1, 0, 0), (.aload_n 0, 1, 0, 0, 0, 0), (.iload 4, 2, 0, 0, 0, 0), (.iload_n 1, 1, 0, 0, 0, 0), (.iload_n 2, 1, 0, 0, 0, 0), (.iload_n 3, 1, 0, 0, 0, 0), (.invokevirtual 176, 3, 156, 4, 0, 0), (.aload_n 0, 1, 0, 0, 0, 0), (.getfield 13, 3, 6, 3, 0, 0), (.iconst 2, 1, 0, 0, 2, 0), (.dup2, 1, 0, 0, 0, 0), (.iaload, 1, 0, 0, 0, 0), (.iconst 1, 1, 0, 0, 1, 0), (.iadd, 1, 0, 0, 0, 0), (.iastore, 1, 0, 0, 0, 0), (.aload_n 0, 1, 0, 0, 0, 0), (.iload 4, 2, 0, 0, 0, 0), (.invokevirtual 161, 3, 136, 1, 0, 0), (.ireturn, 1, 0, 0, 0, 0)]
def zc_154 (pc : Nat) : List zN := if pc = 0 then zb_154_0 else if pc = 21 then zb_154_21 else if pc = 43 then zb_154_43 else []
def zb_155_0 : List zN := [(.iload_n 1, 1, 0, 0, 0, 0), (.iconst (-1), 1, 0, 0, (-1), 0), (.if_icmp .eq 13, 3, 15, 0, 0, 0), (.iload_n 1, 1, 0, 0, 0, 0), (.iload_n 2, 1, 0, 0, 0, 0), (.if_icmp .eq 22, 3, 29, 0, 0, 0), (.iload_n 1, 1, 0, 0, 0, 0), (.iload_n 3, 1, 0, 0, 0, 0), (.if_icmp .eq 17, 3, 29, 0, 0, 0)]
def zb_155_15 : List zN := [(.iload_n 2, 1, 0, 0, 0, 0), (.iconst (-1), 1, 0, 0, (-1), 0), (.if_icmp .eq 8, 3, 25, 0, 0, 0), (.iload_n 2, 1, 0, 0, 0, 0), (.iload_n 3, 1, 0, 0, 0, 0), (.if_icmp .eq 7, 3, 29, 0, 0, 0)]
def zb_155_25 : List zN := [(.iconst 1, 1, 0, 0, 1, 0), (.goto 4, 3, 30, 0, 0, 0)]
def zb_155_29 : List zN := [(.iconst 0, 1, 0, 0, 0, 0)]
def zb_155_30 : List zN := [(.istore 4, 2, 0, 0, 0, 0), (.iload 4, 2, 0, 0, 0, 0), (.ifCond .eq 46, 3, 80, 0, 0, 0), (.iload_n 1, 1, 0, 0, 0, 0), (.iconst (-1), 1, 0, 0, (-1), 0), (.if_icmp .eq 11, 3, 50, 0, 0, 0), (.aload_n 0, 1, 0, 0, 0, 0), (.iload_n 1, 1, 0, 0, 0, 0), (.invokevirtual 166, 3, 151, 1, 0, 0), (.ifCond .eq 33, 3, 80, 0, 0, 0)]
def zb_155_50 : List zN := [(.iload_n 2, 1, 0, 0, 0, 0), (.iconst (-1), 1, 0, 0, (-1), 0), (.if_icmp .eq 11, 3, 63, 0, 0, 0), (.aload_n 0, 1, 0, 0, 0, 0), (.iload_n 2, 1, 0, 0, 0, 0), (.invokevirtual 166, 3, 151, 1, 0, 0), (.ifCond .eq 20, 3, 80, 0, 0, 0)]
def zb_155_63 : List zN := [(.iload_n 3, 1, 0, 0, 0, 0), (.iconst (-1), 1, 0, 0, (-1), 0), (.if_icmp .eq 11, 3, 76, 0, 0, 0), (.aload_n 0, 1, 0, 0, 0, 0), (.iload_n 3, 1, 0, 0, 0, 0), (.invokevirtual 166, 3, 151, 1, 0, 0), (.ifCond .eq 7, 3, 80, 0, 0, 0)]
def zb_155_76 : List zN := [(.iconst 1, 1, 0, 0, 1, 0), (.goto 4, 3, 81, 0, 0, 0)]
def zb_155_80 : List zN := [(.iconst 0, 1, 0, 0, 0, 0)]
def zb_155_81 : List zN := [(.ireturn, 1, 0, 0, 0, 0)]
def zc_155 (pc : Nat) : List zN := if pc = 0 then zb_155_0 else if pc = 15 then zb_155_15 else if pc = 25 then zb_155_25 else if pc = 29 then zb_155_29 else if pc = 30 then zb_155_30 else if pc = 50 then zb_155_50 else if pc = 63 then zb_155_63 else if pc = 76 then zb_155_76 else if pc = 80 then zb_155_80 else if pc = 81 then zb_155_81 else []
def zb_156_0 : List zN := [(.iload_n 1, 1, 0, 0, 0, 0), (.invokestatic 115, 3, 147, 1, 0, 0), (.iconst 5, 1, 0, 0, 5, 0), (.iadd, 1, 0, 0, 0, 0), (.istore 5, 2, 0, 0, 0, 0), (.iconst 0, 1, 0, 0, 0, 0), (.istore 6, 2, 0, 0, 0, 0), (.iconst 0, 1, 0, 0, 0, 0), (.istore 7, 2, 0, 0, 0, 0)]
def zb_156_14 : List zN := [(.iload 7, 2, 0, 0, 0, 0), (.iconst 3, 1, 0, 0, 3, 0), (.if_icmp .ge 64, 3, 81, 0, 0, 0), (.iload 7, 2, 0, 0, 0, 0), (.ifCond .ne 7, 3, 29, 0, 0, 0), (.iload_n 2, 1, 0, 0, 0, 0), (.goto 15, 3, 41, 0, 0, 0)]
def zb_156_29 : List zN := [(.iload 7, 2, 0, 0, 0, 0), (.iconst 1, 1, 0, 0, 1, 0), (.if_icmp .ne 7, 3, 39, 0, 0, 0), (.iload_n 3, 1, 0, 0, 0, 0), (.goto 5, 3, 41, 0, 0, 0)]
def zb_156_39 : List zN := [(.iload 4, 2, 0, 0, 0, 0)]
def zb_156_41 : List zN := [(.istore 8, 2, 0, 0, 0, 0), (.aload_n 0, 1, 0, 0, 0, 0), (.getfield 13, 3, 6, 3, 0, 0), (.iload 5, 2, 0, 0, 0, 0), (.iload 7, 2, 0, 0, 0, 0), (.iadd, 1, 0, 0, 0, 0), (.iconst (-1), 1, 0, 0, (-1), 0), (.iastore, 1, 0, 0, 0, 0), (.iload 8, 2, 0, 0, 0, 0), (.iconst (-1), 1, 0, 0, (-1), 0), (.if_icmp .eq 18, 3, 75, 0, 0, 0), (.aload_n 0, 1, 0, 0, 0, 0), (.getfield 13, 3, 6, 3, 0, 0), (.iload 5, 2, 0, 0, 0, 0), (.iload 6, 2, 0, 0, 0, 0), (.iadd, 1, 0, 0, 0, 0), (.iload 8, 2, 0, 0, 0, 0), (.iastore, 1, 0, 0, 0, 0), (.iinc 6 1, 3, 0, 0, 1, 0)]
def zb_156_75 : List zN := [(.iinc 7 1, 3, 0, 0, 1, 0), (.goto (-64), 3, 14, 0, 0, 0)]
def zb_156_81 : List zN := [(.return_, 1, 0, 0, 0, 0)]
def zc_156 (pc : Nat) : List zN := if pc = 0 then zb_156_0 else if pc = 14 then zb_156_14 else if pc = 29 then zb_156_29 else if pc = 39 then zb_156_39 else if pc = 41 then zb_156_41 else if pc = 75 then zb_156_75 else if pc = 81 then zb_156_81 else []
def zb_157_0 : List zN := [(.aload_n 0, 1, 0, 0, 0, 0), (.iconst 0, 1, 0, 0, 0, 0), (.putfield 51, 3, 6, 0, 0, 0), (.aload_n 0, 1, 0, 0, 0, 0), (.iload_n 2, 1, 0, 0, 0, 0), (.iload_n 3, 1, 0, 0, 0, 0), (.iload 4, 2, 0, 0, 0, 0), (.invokevirtual 172, 3, 155, 3, 0, 0), (.ifCond .ne 9, 3, 22, 0, 0, 0), (.aload_n 0, 1, 0, 0, 0, 0), (.iconst (-1), 1, 0, 0, (-1), 0), (.invokevirtual 68, 3, 126, 1, 0, 0), (.ireturn, 1, 0, 0, 0, 0)]
def zb_157_22 : List zN := [(.aload_n 0, 1, 0, 0, 0, 0), (.iload_n 1, 1, 0, 0, 0, 0), (.invokevirtual 180, 3, 158, 1, 0, 0), (.ifCond .ne 10, 3, 37, 0, 0, 0), (.aload_n 0, 1, 0, 0, 0, 0), (.bipush (-2), 2, 0, 0, (-2), 0), (.invokevirtual 68, 3, 126, 1, 0, 0), (.ireturn, 1, 0, 0, 0, 0)]
def zb_157_37 : List zN := [(.aload_n 0, 1, 0, 0, 0, 0), (.iconst 4, 1, 0, 0, 4, 0), (.invokevirtual 72, 3, 134, 1, 0, 0), (.aload_n 0, 1, 0, 0, 0, 0), (.iload_n 1, 1, 0, 0, 0, 0), (.iload_n 2, 1, 0, 0, 0, 0), (.iload_n 3, 1, 0, 0, 0, 0), (.iload 4, 2, 0, 0, 0, 0), (.invokevirtual 176, 3, 156, 4, 0, 0), (.aload_n 0, 1, 0, 0, 0, 0), (.iconst 0, 1, 0, 0, 0, 0), (.invokevirtual 161, 3, 136, 1, 0, 0), (.ireturn, 1, 0, 0, 0, 0)]
def zc_157 (pc : Nat) : List zN := if pc = 0 then zb_157_0 else if pc = 22 then zb_157_22 else if pc = 37 then zb_157_37 else []
def zb_158_0 : List zN := [(.iload_n 1, 1, 0, 0, 0, 0), (.i2l, 1, 0, 0, 0, 0), (.lconst 0, 1, 0, 0, 0, 0), (.aload_n 0, 1, 0, 0, 0, 0), (.getfield 13, 3, 6, 3, 0, 0), (.iconst 2, 1, 0, 0, 2, 0), (.iaload, 1, 0, 0, 0, 0), (.i2l, 1, 0, 0, 0, 0), (.lconst 1, 1, 0, 0, 0, 1), (.lsub, 1, 0, 0, 0, 0), (.invokestatic 79, 3, 130, 3, 0, 0), (.ireturn, 1, 0, 0, 0, 0)]
def zc_158 (pc : Nat) : List zN := if pc = 0 then zb_158_0 else []
def zb_159_0 : List zN := [(.aload_n 0, 1, 0, 0, 0, 0), (.iconst 0, 1, 0, 0, 0, 0), (.putfield 51, 3, 6, 0, 0, 0), (.iload_n 2, 1, 0, 0, 0, 0), (.invokestatic 183, 3, 160, 1, 0, 0), (.ifCond .eq 15, 3, 24, 0, 0, 0), (.iload_n 3, 1, 0, 0, 0, 0), (.i2l, 1, 0, 0, 0, 0), (.lconst 1, 1, 0, 0, 0, 1), (.ldc2_w 186, 3, 0, 0, 0, 99999), (.invokestatic 79, 3, 130, 3, 0, 0), (.ifCond .ne 9, 3, 30, 0, 0, 0)]
def zb_159_24 : List zN := [(.aload_n 0, 1, 0, 0, 0, 0), (.iconst (-1), 1, 0, 0, (-1), 0), (.invokevirtual 68, 3, 126, 1, 0, 0), (.ireturn, 1, 0, 0, 0, 0)]
def zb_159_30 : List zN := [(.aload_n 0, 1, 0, 0, 0, 0), (.iload_n 1, 1, 0, 0, 0, 0), (.invokevirtual 180, 3, 158, 1, 0, 0), (.ifCond .ne 10, 3, 45, 0, 0, 0), (.aload_n 0, 1, 0, 0, 0, 0), (.bipush (-2), 2, 0, 0, (-2), 0), (.invokevirtual 68, 3, 126, 1, 0, 0), (.ireturn, 1, 0, 0, 0, 0)]
def zb_159_45 : List zN := [(.iload_n 1, 1, 0, 0, 0, 0), (.invokestatic 115, 3, 147, 1, 0, 0), (.iload_n 2, 1, 0, 0, 0, 0), (.iadd, 1, 0, 0, 0, 0), (.istore 4, 2, 0, 0, 0, 0), (.aload_n 0, 1, 0, 0, 0, 0), (.getfield 13, 3, 6, 3, 0, 0), (.iload 4, 2, 0, 0, 0, 0), (.iaload, 1, 0, 0, 0, 0), (.iload_n 3, 1, 0, 0, 0, 0), (.iadd, 1, 0, 0, 0, 0), (.ldc 188, 2, 0, 0, 99999, 0), (.if_icmp .le 10, 3, 74, 0, 0, 0), (.aload_n 0, 1, 0, 0, 0, 0), (.bipush (-4), 2, 0, 0, (-4), 0), (.invokevirtual 68, 3, 126, 1, 0, 0), (.ireturn, 1, 0, 0, 0, 0)]
def zb_159_74 : List zN := [(.aload_n 0, 1, 0, 0, 0, 0), (.iconst 5, 1, 0, 0, 5, 0), (.invokevirtual 72, 3, 134, 1, 0, 0), (.aload_n 0, 1, 0, 0, 0, 0), (.getfield 13, 3, 6, 3, 0, 0), (.iload 4, 2, 0, 0, 0, 0), (.dup2, 1, 0, 0, 0, 0), (.iaload, 1, 0, 0, 0, 0), (.iload_n 3, 1, 0, 0, 0, 0), (.iadd, 1, 0, 0, 0, 0), (.iastore, 1, 0, 0, 0, 0), (.aload_n 0, 1, 0, 0, 0, 0), (.getfield 13, 3, 6, 3, 0, 0), (.iload 4, 2, 0, 0, 0, 0), (.iaload, 1, 0, 0, 0, 0), (.istore 5, 2, 0, 0, 0, 0), (.aload_n 0, 1, 0, 0, 0, 0), (.iload 5, 2, 0, 0, 0, 0), (.invokevirtual 161, 3, 136, 1, 0, 0), (.ireturn, 1, 0, 0, 0, 0)]
def zc_159 (pc : Nat) : List zN := if pc = 0 then zb_159_0 else if pc = 24 then zb_159_24 else if pc = 30 then zb_159_30 else if pc = 45 then zb_159_45 else if pc = 74 then zb_159_74 else []
def zb_160_0 : List zN := [(.iload_n 0, 1, 0, 0, 0, 0), (.i2l, 1, 0, 0, 0, 0), (.lconst 0, 1, 0, 0, 0, 0), (.ldc2_w 83, 3, 0, 0, 0, 4), (.invokestatic 79, 3, 130, 3, 0, 0), (.ireturn, 1, 0, 0, 0, 0)]
def zc_160 (pc : Nat) : List zN := if pc = 0 then zb_160_0 else []
def zb_161_0 : List zN := [(.aload_n 0, 1, 0, 0, 0, 0), (.iconst 0, 1, 0, 0, 0, 0), (.putfield 51, 3, 6, 0, 0, 0), (.iload_n 1, 1, 0, 0, 0, 0), (.invokestatic 183, 3, 160, 1, 0, 0), (.ifCond .eq 35, 3, 44, 0, 0, 0), (.iload_n 2, 1, 0, 0, 0, 0), (.i2l, 1, 0, 0, 0, 0), (.lconst 0, 1, 0, 0, 0, 0), (.lconst 1, 1, 0, 0, 0, 1), (.invokestatic 79, 3, 130, 3, 0, 0), (.ifCond .eq 25, 3, 44, 0, 0, 0), (.iload_n 3, 1, 0, 0, 0, 0), (.i2l, 1, 0, 0, 0, 0), (.lconst 0, 1, 0, 0, 0, 0), (.iload_n 2, 1, 0, 0, 0, 0), (.ifCond .ne 9, 3, 35, 0, 0, 0), (.ldc2_w 189, 3, 0, 0, 0, 99), (.goto 6, 3, 38, 0, 0, 0)]
def zb_161_35 : List zN := [(.ldc2_w 191, 3, 0, 0, 0, 999)]
def zb_161_38 : List zN := [(.invokestatic 79, 3, 130, 3, 0, 0), (.ifCond .ne 9, 3, 50, 0, 0, 0)]
def zb_161_44 : List zN := [(.aload_n 0, 1, 0, 0, 0, 0), (.iconst (-1), 1, 0, 0, (-1), 0), (.invokevirtual 68, 3, 126, 1, 0, 0), (.ireturn, 1, 0, 0, 0, 0)]
def zb_161_50 : List zN := [(.aload_n 0, 1, 0, 0, 0, 0), (.iload_n 1, 1, 0, 0, 0, 0), (.invokestatic 98, 3, 142, 1, 0, 0), (.iconst 1, 1, 0, 0, 1, 0), (.iadd, 1, 0, 0, 0, 0), (.iload_n 2, 1, 0, 0, 0, 0), (.iadd, 1, 0, 0, 0, 0), (.iload_n 3, 1, 0, 0, 0, 0), (.bipush 6, 2, 0, 0, 6, 0), (.invokevirtual 169, 3, 152, 3, 0, 0), (.ireturn, 1, 0, 0, 0, 0)]
def zc_161 (pc : Nat) : List zN := if pc = 0 then zb_161_0 else if pc = 35 then zb_161_35 else if pc = 38 then zb_161_38 else if pc = 44 then zb_161_44 else if pc = 50 then zb_161_50 else []
def zb_162_0 : List zN := [(.aload_n 0, 1, 0, 0, 0, 0), (.iconst 0, 1, 0, 0, 0, 0), (.putfield 51, 3, 6, 0, 0, 0), (.iload_n 1, 1, 0, 0, 0, 0), (.invokestatic 183, 3, 160, 1, 0, 0), (.ifCond .eq 27, 3, 36, 0, 0, 0), (.iload_n 2, 1, 0, 0, 0, 0), (.i2l, 1, 0, 0, 0, 0), (.lconst 0, 1, 0, 0, 0, 0), (.ldc2_w 196, 3, 0, 0, 0, 9999), (.invokestatic 79, 3, 130, 3, 0, 0), (.ifCond .eq 15, 3, 36, 0, 0, 0), (.iload_n 3, 1, 0, 0, 0, 0), (.i2l, 1, 0, 0, 0, 0), (.lconst 0, 1, 0, 0, 0, 0), (.ldc2_w 191, 3, 0, 0, 0, 999), (.invokestatic 79, 3, 130, 3, 0, 0), (.ifCond .ne 9, 3, 42, 0, 0, 0)]
def zb_162_36 : List zN := [(.aload_n 0, 1, 0, 0, 0, 0), (.iconst (-1), 1, 0, 0, (-1), 0), (.invokevirtual 68, 3, 126, 1, 0, 0), (.ireturn, 1, 0, 0, 0, 0)]
def zb_162_42 : List zN := [(.iload_n 2, 1, 0, 0, 0, 0), (.aload_n 0, 1, 0, 0, 0, 0), (.getfield 13, 3, 6, 3, 0, 0), (.iconst 0, 1, 0, 0, 0, 0), (.iaload, 1, 0, 0, 0, 0), (.if_icmp .gt 23, 3, 72, 0, 0, 0), (.aload_n 0, 1, 0, 0, 0, 0), (.getfield 13, 3, 6, 3, 0, 0), (.iconst 0, 1, 0, 0, 0, 0), (.iaload, 1, 0, 0, 0, 0), (.ifCond .gt 7, 3, 65, 0, 0, 0), (.iload_n 2, 1, 0, 0, 0, 0), (.ifCond .le 10, 3, 72, 0, 0, 0)]
def zb_162_65 : List zN := [(.aload_n 0, 1, 0, 0, 0, 0), (.bipush (-4), 2, 0, 0, (-4), 0), (.invokevirtual 68, 3, 126, 1, 0, 0), (.ireturn, 1, 0, 0, 0, 0)]
def zb_162_72 : List zN := [(.iload_n 1, 1, 0, 0, 0, 0), (.invokestatic 98, 3, 142, 1, 0, 0), (.istore 4, 2, 0, 0, 0, 0), (.iconst (-1), 1, 0, 0, (-1), 0), (.istore 5, 2, 0, 0, 0, 0), (.iconst 0, 1, 0, 0, 0, 0), (.istore 6, 2, 0, 0, 0, 0)]
def zb_162_84 : List zN := [(.iload 6, 2, 0, 0, 0, 0), (.aload_n 0, 1, 0, 0, 0, 0), (.getfield 13, 3, 6, 3, 0, 0), (.iload 4, 2, 0, 0, 0, 0), (.iconst 0, 1, 0, 0, 0, 0), (.iadd, 1, 0, 0, 0, 0), (.iaload, 1, 0, 0, 0, 0), (.if_icmp .ge 36, 3, 131, 0, 0, 0), (.aload_n 0, 1, 0, 0, 0, 0), (.getfield 13, 3, 6, 3, 0, 0), (.iload 4, 2, 0, 0, 0, 0), (.iconst 3, 1, 0, 0, 3, 0), (.iadd, 1, 0, 0, 0, 0), (.iconst 2, 1, 0, 0, 2, 0), (.iload 6, 2, 0, 0, 0, 0), (.imul, 1, 0, 0, 0, 0), (.iadd, 1, 0, 0, 0, 0), (.iaload, 1, 0, 0, 0, 0), (.iload_n 2, 1, 0, 0, 0, 0), (.if_icmp .ne 8, 3, 121, 0, 0, 0), (.iload 6, 2, 0, 0, 0, 0), (.goto 5, 3, 123, 0, 0, 0)]
def zb_162_121 : List zN := [(.iload 5, 2, 0, 0, 0, 0)]
def zb_162_123 : List zN := [(.istore 5, 2, 0, 0, 0, 0), (.iinc 6 1, 3, 0, 0, 1, 0), (.goto (-44), 3, 84, 0, 0, 0)]
def zb_162_131 : List zN := [(.aload_n 0, 1, 0, 0, 0, 0), (.iload_n 1, 1, 0, 0, 0, 0), (.iload_n 2, 1, 0, 0, 0, 0), (.invokevirtual 101, 3, 143, 2, 0, 0), (.istore 6, 2, 0, 0, 0, 0), (.aload_n 0, 1, 0, 0, 0, 0), (.aload_n 0, 1, 0, 0, 0, 0), (.getfield 39, 3, 6, 12, 0, 0), (.aload_n 0, 1, 0, 0, 0, 0), (.getfield 42, 3, 6, 13, 0, 0), (.iconst 0, 1, 0, 0, 0, 0), (.invokevirtual 61, 3, 131, 3, 0, 0), (.iload 5, 2, 0, 0, 0, 0), (.iconst (-1), 1, 0, 0, (-1), 0), (.if_icmp .ne 21, 3, 176, 0, 0, 0), (.aload_n 0, 1, 0, 0, 0, 0), (.getfield 13, 3, 6, 3, 0, 0), (.iload 4, 2, 0, 0, 0, 0), (.iconst 0, 1, 0, 0, 0, 0), (.iadd, 1, 0, 0, 0, 0), (.iaload, 1, 0, 0, 0, 0), (.bipush 12, 2, 0, 0, 12, 0), (.if_icmp .ne 7, 3, 176, 0, 0, 0), (.iconst 1, 1, 0, 0, 1, 0), (.goto 4, 3, 177, 0, 0, 0)]
def zb_162_176 : List zN := [(.iconst 0, 1, 0, 0, 0, 0)]
def zb_162_177 : List zN := [(.istore 7, 2, 0, 0, 0, 0), (.iload 5, 2, 0, 0, 0, 0), (.iconst (-1), 1, 0, 0, (-1), 0), (.if_icmp .ne 27, 3, 209, 0, 0, 0), (.aload_n 0, 1, 0, 0, 0, 0), (.getfield 13, 3, 6, 3, 0, 0), (.iload 4, 2, 0, 0, 0, 0), (.iconst 0, 1, 0, 0, 0, 0), (.iadd, 1, 0, 0, 0, 0), (.iaload, 1, 0, 0, 0, 0), (.istore 5, 2, 0, 0, 0, 0), (.aload_n 0, 1, 0, 0, 0, 0), (.getfield 13, 3, 6, 3, 0, 0), (.iload 4, 2, 0, 0, 0, 0), (.iconst 0, 1, 0, 0, 0, 0), (.iadd, 1, 0, 0, 0, 0), (.dup2, 1, 0, 0, 0, 0), (.iaload, 1, 0, 0, 0, 0), (.iconst 1, 1, 0, 0, 1, 0), (.iadd, 1, 0, 0, 0, 0), (.iastore, 1, 0, 0, 0, 0)]
def zb_162_209 : List zN := [(.aload_n 0, 1, 0, 0, 0, 0), (.getfield 13, 3, 6, 3, 0, 0), (.iload 4, 2, 0, 0, 0, 0), (.iconst 3, 1, 0, 0, 3, 0), (.iadd, 1, 0, 0, 0, 0), (.iconst 2, 1, 0, 0, 2, 0), (.iload 5, 2, 0, 0, 0, 0), (.imul, 1, 0, 0, 0, 0), (.iadd, 1, 0, 0, 0, 0), (.iload_n 2, 1, 0, 0, 0, 0), (.iastore, 1, 0, 0, 0, 0), (.aload_n 0, 1, 0, 0, 0, 0), (.getfield 13, 3, 6, 3, 0, 0), (.iload 4, 2, 0, 0, 0, 0), (.iconst 3, 1, 0, 0, 3, 0), (.iadd, 1, 0, 0, 0, 0), (.iconst 2, 1, 0, 0, 2, 0), (.iload 5, 2, 0, 0, 0, 0), (.imul, 1, 0, 0, 0, 0), (.iadd, 1, 0, 0, 0, 0), (.iconst 1, 1, 0, 0, 1, 0), (.iadd, 1, 0, 0, 0, 0), (.iload_n 3, 1, 0, 0, 0, 0), (.iastore, 1, 0, 0, 0, 0), (.aload_n 0, 1, 0, 0, 0, 0), (.iload_n 1, 1, 0, 0, 0, 0), (.invokevirtual 198, 3, 163, 1, 0, 0), (.ifCond .ne 10, 3, 256, 0, 0, 0), (.aload_n 0, 1, 0, 0, 0, 0), (.bipush (-4), 2, 0, 0, (-4), 0), (.invokevirtual 201, 3, 169, 1, 0, 0), (.ireturn, 1, 0, 0, 0, 0)]
def zb_162_256 : List zN := [(.iload 7, 2, 0, 0, 0, 0), (.ifCond .eq 10, 3, 268, 0, 0, 0), (.aload_n 0, 1, 0, 0, 0, 0), (.bipush (-5), 2, 0, 0, (-5), 0), (.invokevirtual 201, 3, 169, 1, 0, 0), (.ireturn, 1, 0, 0, 0, 0)]
def zb_162_268 : List zN := [(.aload_n 0, 1, 0, 0, 0, 0), (.bipush 7, 2, 0, 0, 7, 0), (.invokevirtual 204, 3, 170, 1, 0, 0), (.aload_n 0, 1, 0, 0, 0, 0), (.iload 6, 2, 0, 0, 0, 0), (.invokevirtual 161, 3, 136, 1, 0, 0), (.ireturn, 1, 0, 0, 0, 0)]
def zc_162 (pc : Nat) : List zN := if pc = 0 then zb_162_0 else if pc = 36 then zb_162_36 else if pc = 42 then zb_162_42 else if pc = 65 then zb_162_65 else if pc = 72 then zb_162_72 else if pc = 84 then zb_162_84 else if pc = 121 then zb_162_121 else if pc = 123 then zb_162_123 else if pc = 131 then zb_162_131 else if pc = 176 then zb_162_176 else if pc = 177 then zb_162_177 else if pc = 209 then zb_162_209 else if pc = 256 then zb_162_256 else if pc = 268 then zb_162_268 else []
def zb_163_0 : List zN := [(.iconst 1, 1, 0, 0, 1, 0), (.istore_n 2, 1, 0, 0, 0, 0), (.iconst 0, 1, 0, 0, 0, 0), (.istore_n 3, 1, 0, 0, 0, 0)]
def zb_163_4 : List zN := [(.iload_n 3, 1, 0, 0, 0, 0), (.aload_n 0, 1, 0, 0, 0, 0), (.getfield 13, 3, 6, 3, 0, 0), (.iconst 3, 1, 0, 0, 3, 0), (.iaload, 1, 0, 0, 0, 0), (.if_icmp .ge 51, 3, 62, 0, 0, 0), (.iload_n 2, 1, 0, 0, 0, 0), (.ifCond .eq 47, 3, 62, 0, 0, 0), (.aload_n 0, 1, 0, 0, 0, 0), (.iload_n 3, 1, 0, 0, 0, 0), (.invokevirtual 92, 3, 164, 1, 0, 0), (.iconst 1, 1, 0, 0, 1, 0), (.if_icmp .ne 26, 3, 50, 0, 0, 0), (.aload_n 0, 1, 0, 0, 0, 0), (.getfield 13, 3, 6, 3, 0, 0), (.iload_n 3, 1, 0, 0, 0, 0), (.invokestatic 85, 3, 138, 1, 0, 0), (.iconst 2, 1, 0, 0, 2, 0), (.iadd, 1, 0, 0, 0, 0), (.iaload, 1, 0, 0, 0, 0), (.iload_n 1, 1, 0, 0, 0, 0), (.if_icmp .ne 11, 3, 50, 0, 0, 0), (.aload_n 0, 1, 0, 0, 0, 0), (.iload_n 3, 1, 0, 0, 0, 0), (.invokevirtual 193, 3, 165, 1, 0, 0), (.ifCond .eq 7, 3, 54, 0, 0, 0)]
def zb_163_50 : List zN := [(.iconst 1, 1, 0, 0, 1, 0), (.goto 4, 3, 55, 0, 0, 0)]
def zb_163_54 : List zN := [(.iconst 0, 1, 0, 0, 0, 0)]
def zb_163_55 : List zN := [(.istore_n 2, 1, 0, 0, 0, 0), (.iinc 3 1, 3, 0, 0, 1, 0), (.goto (-55), 3, 4, 0, 0, 0)]
def zb_163_62 : List zN := [(.iload_n 2, 1, 0, 0, 0, 0), (.ireturn, 1, 0, 0, 0, 0)]
def zc_163 (pc : Nat) : List zN := if pc = 0 then zb_163_0 else if pc = 4 then zb_163_4 else if pc = 50 then zb_163_50 else if pc = 54 then zb_163_54 else if pc = 55 then zb_163_55 else if pc = 62 then zb_163_62 else []
def zb_164_0 : List zN := [(.aload_n 0, 1, 0, 0, 0, 0), (.getfield 13, 3, 6, 3, 0, 0), (.iload_n 1, 1, 0, 0, 0, 0), (.invokestatic 85, 3, 138, 1, 0, 0), (.bipush 6, 2, 0, 0, 6, 0), (.iadd, 1, 0, 0, 0, 0), (.iaload, 1, 0, 0, 0, 0), (.ireturn, 1, 0, 0, 0, 0)]
def zc_164 (pc : Nat) : List zN := if pc = 0 then zb_164_0 else []
def zb_165_0 : List zN := [(.aload_n 0, 1, 0, 0, 0, 0), (.iload_n 1, 1, 0, 0, 0, 0), (.invokevirtual 134, 3, 139, 1, 0, 0), (.aload_n 0, 1, 0, 0, 0, 0), (.iload_n 1, 1, 0, 0, 0, 0), (.invokevirtual 137, 3, 166, 1, 0, 0), (.isub, 1, 0, 0, 0, 0), (.istore_n 2, 1, 0, 0, 0, 0), (.iload_n 2, 1, 0, 0, 0, 0), (.ifCond .ge 11, 3, 24, 0, 0, 0), (.aload_n 0, 1, 0, 0, 0, 0), (.iload_n 1, 1, 0, 0, 0, 0), (.iload_n 2, 1, 0, 0, 0, 0), (.ineg, 1, 0, 0, 0, 0), (.iconst (-1), 1, 0, 0, (-1), 0), (.invokevirtual 140, 3, 167, 3, 0, 0)]
def zb_165_24 : List zN := [(.iload_n 2, 1, 0, 0, 0, 0), (.ifCond .le 12, 3, 37, 0, 0, 0), (.aload_n 0, 1, 0, 0, 0, 0), (.iload_n 1, 1, 0, 0, 0, 0), (.iload_n 2, 1, 0, 0, 0, 0), (.invokevirtual 144, 3, 145, 2, 0, 0), (.ifCond .eq 7, 3, 41, 0, 0, 0)]
def zb_165_37 : List zN := [(.iconst 1, 1, 0, 0, 1, 0), (.goto 4, 3, 42, 0, 0, 0)]
def zb_165_41 : List zN := [(.iconst 0, 1, 0, 0, 0, 0)]
def zb_165_42 : List zN := [(.ireturn, 1, 0, 0, 0, 0)]
def zc_165 (pc : Nat) : List zN := if pc = 0 then zb_165_0 else if pc = 24 then zb_165_24 else if pc = 37 then zb_165_37 else if pc = 41 then zb_165_41 else if pc = 42 then zb_165_42 else []
def zb_166_0 : List zN := [(.iconst 0, 1, 0, 0, 0, 0), (.istore_n 2, 1, 0, 0, 0, 0), (.iconst 0, 1, 0, 0, 0, 0), (.istore_n 3, 1, 0, 0, 0, 0)]
def zb_166_4 : List zN := [(.iload_n 3, 1, 0, 0, 0, 0), (.iconst 4, 1, 0, 0, 4, 0), (.if_icmp .ge 26, 3, 32, 0, 0, 0), (.iload_n 2, 1, 0, 0, 0, 0), (.aload_n 0, 1, 0, 0, 0, 0), (.getfield 13, 3, 6, 3, 0, 0), (.iload_n 1, 1, 0, 0, 0, 0), (.invokestatic 85, 3, 138, 1, 0, 0), (.bipush 13, 2, 0, 0, 13, 0), (.iadd, 1, 0, 0, 0, 0), (.iload_n 3, 1, 0, 0, 0, 0), (.iadd, 1, 0, 0, 0, 0), (.iaload, 1, 0, 0, 0, 0), (.iadd, 1, 0, 0, 0, 0), (.istore_n 2, 1, 0, 0, 0, 0), (.iinc 3 1, 3, 0, 0, 1, 0), (.goto (-25), 3, 4, 0, 0, 0)]
def zb_166_32 : List zN := [(.iload_n 2, 1, 0, 0, 0, 0), (.ireturn, 1, 0, 0, 0, 0)]
def zc_166 (pc : Nat) : List zN := if pc = 0 then zb_166_0 else if pc = 4 then zb_166_4 else if pc = 32 then zb_166_32 else []
def zb_167_0 : List zN := [(.aload_n 0, 1, 0, 0, 0, 0), (.iload_n 1, 1, 0, 0, 0, 0), (.invokevirtual 127, 3, 168, 1, 0, 0), (.iload_n 2, 1, 0, 0, 0, 0), (.istore 4, 2, 0, 0, 0, 0), (.iconst 3, 1, 0, 0, 3, 0), (.istore 5, 2, 0, 0, 0, 0)]
def zb_167_11 : List zN := [(.iload 5, 2, 0, 0, 0, 0), (.ifCond .lt 112, 3, 125, 0, 0, 0), (.aload_n 0, 1, 0, 0, 0, 0), (.getfield 45, 3, 6, 14, 0, 0), (.iload 5, 2, 0, 0, 0, 0), (.iaload, 1, 0, 0, 0, 0), (.istore 6, 2, 0, 0, 0, 0), (.iload 4, 2, 0, 0, 0, 0), (.aload_n 0, 1, 0, 0, 0, 0), (.getfield 13, 3, 6, 3, 0, 0), (.iload_n 1, 1, 0, 0, 0, 0), (.invokestatic 85, 3, 138, 1, 0, 0), (.bipush 13, 2, 0, 0, 13, 0), (.iadd, 1, 0, 0, 0, 0), (.iload 6, 2, 0, 0, 0, 0), (.iadd, 1, 0, 0, 0, 0), (.iaload, 1, 0, 0, 0, 0), (.invokestatic 124, 3, 149, 2, 0, 0), (.istore 7, 2, 0, 0, 0, 0), (.aload_n 0, 1, 0, 0, 0, 0), (.getfield 13, 3, 6, 3, 0, 0), (.iload_n 1, 1, 0, 0, 0, 0), (.invokestatic 85, 3, 138, 1, 0, 0), (.bipush 13, 2, 0, 0, 13, 0), (.iadd, 1, 0, 0, 0, 0), (.iload 6, 2, 0, 0, 0, 0), (.iadd, 1, 0, 0, 0, 0), (.dup2, 1, 0, 0, 0, 0), (.iaload, 1, 0, 0, 0, 0), (.iload 7, 2, 0, 0, 0, 0), (.isub, 1, 0, 0, 0, 0), (.iastore, 1, 0, 0, 0, 0), (.iload_n 3, 1, 0, 0, 0, 0), (.iconst (-1), 1, 0, 0, (-1), 0), (.if_icmp .ne 23, 3, 92, 0, 0, 0), (.aload_n 0, 1, 0, 0, 0, 0), (.getfield 13, 3, 6, 3, 0, 0), (.iload 6, 2, 0, 0, 0, 0), (.invokestatic 95, 3, 135, 1, 0, 0), (.iconst 1, 1, 0, 0, 1, 0), (.iadd, 1, 0, 0, 0, 0), (.dup2, 1, 0, 0, 0, 0), (.iaload, 1, 0, 0, 0, 0), (.iload 7, 2, 0, 0, 0, 0), (.isub, 1, 0, 0, 0, 0), (.iastore, 1, 0, 0, 0, 0), (.goto 23, 3, 112, 0, 0, 0)]
def zb_167_92 : List zN := [(.aload_n 0, 1, 0, 0, 0, 0), (.getfield 13, 3, 6, 3, 0, 0), (.iload_n 3, 1, 0, 0, 0, 0), (.invokestatic 85, 3, 138, 1, 0, 0), (.bipush 13, 2, 0, 0, 13, 0), (.iadd, 1, 0, 0, 0, 0), (.iload 6, 2, 0, 0, 0, 0), (.iadd, 1, 0, 0, 0, 0), (.dup2, 1, 0, 0, 0, 0), (.iaload, 1, 0, 0, 0, 0), (.iload 7, 2, 0, 0, 0, 0), (.iadd, 1, 0, 0, 0, 0), (.iastore, 1, 0, 0, 0, 0)]
def zb_167_112 : List zN := [(.iload 4, 2, 0, 0, 0, 0), (.iload 7, 2, 0, 0, 0, 0), (.isub, 1, 0, 0, 0, 0), (.istore 4, 2, 0, 0, 0, 0), (.iinc 5 (-1), 3, 0, 0, (-1), 0), (.goto (-111), 3, 11, 0, 0, 0)]
def zb_167_125 : List zN := [(.aload_n 0, 1, 0, 0, 0, 0), (.getfield 16, 3, 6, 4, 0, 0), (.bipush 8, 2, 0, 0, 8, 0), (.iconst 2, 1, 0, 0, 2, 0), (.iload_n 1, 1, 0, 0, 0, 0), (.imul, 1, 0, 0, 0, 0), (.iadd, 1, 0, 0, 0, 0), (.iconst 1, 1, 0, 0, 1, 0), (.iadd, 1, 0, 0, 0, 0), (.dup2, 1, 0, 0, 0, 0), (.laload, 1, 0, 0, 0, 0), (.iload_n 2, 1, 0, 0, 0, 0), (.i2l, 1, 0, 0, 0, 0), (.ladd, 1, 0, 0, 0, 0), (.lastore, 1, 0, 0, 0, 0), (.return_, 1, 0, 0, 0, 0)]
def zc_167 (pc : Nat) : List zN := if pc = 0 then zb_167_0 else if pc = 11 then zb_167_11 else if pc = 92 then zb_167_92 else if pc = 112 then zb_167_112 else if pc = 125 then zb_167_125 else []
def zb_168_0 : List zN := [(.aload_n 0, 1, 0, 0, 0, 0), (.getfield 13, 3, 6, 3, 0, 0), (.iload_n 1, 1, 0, 0, 0, 0), (.invokestatic 85, 3, 138, 1, 0, 0), (.iconst 0, 1, 0, 0, 0, 0), (.iadd, 1, 0, 0, 0, 0), (.iaload, 1, 0, 0, 0, 0), (.invokestatic 115, 3, 147, 1, 0, 0), (.iconst 5, 1, 0, 0, 5, 0), (.iadd, 1, 0, 0, 0, 0), (.istore_n 2, 1, 0, 0, 0, 0), (.iconst 0, 1, 0, 0, 0, 0), (.istore_n 3, 1, 0, 0, 0, 0), (.iconst 0, 1, 0, 0, 0, 0), (.istore 4, 2, 0, 0, 0, 0)]
def zb_168_22 : List zN := [(.iload 4, 2, 0, 0, 0, 0), (.iconst 3, 1, 0, 0, 3, 0), (.if_icmp .ge 40, 3, 65, 0, 0, 0), (.aload_n 0, 1, 0, 0, 0, 0), (.getfield 13, 3, 6, 3, 0, 0), (.iload_n 2, 1, 0, 0, 0, 0), (.iload 4, 2, 0, 0, 0, 0), (.iadd, 1, 0, 0, 0, 0), (.iaload, 1, 0, 0, 0, 0), (.iconst (-1), 1, 0, 0, (-1), 0), (.if_icmp .eq 21, 3, 59, 0, 0, 0), (.aload_n 0, 1, 0, 0, 0, 0), (.getfield 45, 3, 6, 14, 0, 0), (.iload_n 3, 1, 0, 0, 0, 0), (.aload_n 0, 1, 0, 0, 0, 0), (.getfield 13, 3, 6, 3, 0, 0), (.iload_n 2, 1, 0, 0, 0, 0), (.iload 4, 2, 0, 0, 0, 0), (.iadd, 1, 0, 0, 0, 0), (.iaload, 1, 0, 0, 0, 0), (.iastore, 1, 0, 0, 0, 0), (.iinc 3 1, 3, 0, 0, 1, 0)]
def zb_168_59 : List zN := [(.iinc 4 1, 3, 0, 0, 1, 0), (.goto (-40), 3, 22, 0, 0, 0)]
def zb_168_65 : List zN := [(.iconst 0, 1, 0, 0, 0, 0), (.istore 4, 2, 0, 0, 0, 0)]
def zb_168_68 : List zN := [(.iload 4, 2, 0, 0, 0, 0), (.iconst 4, 1, 0, 0, 4, 0), (.if_icmp .ge 74, 3, 145, 0, 0, 0), (.iload_n 3, 1, 0, 0, 0, 0), (.iconst 4, 1, 0, 0, 4, 0), (.if_icmp .ge 69, 3, 145, 0, 0, 0), (.aload_n 0, 1, 0, 0, 0, 0), (.getfield 13, 3, 6, 3, 0, 0), (.iload_n 2, 1, 0, 0, 0, 0), (.iaload, 1, 0, 0, 0, 0), (.iload 4, 2, 0, 0, 0, 0), (.if_icmp .eq 33, 3, 120, 0, 0, 0), (.aload_n 0, 1, 0, 0, 0, 0), (.getfield 13, 3, 6, 3, 0, 0), (.iload_n 2, 1, 0, 0, 0, 0), (.iconst 1, 1, 0, 0, 1, 0), (.iadd, 1, 0, 0, 0, 0), (.iaload, 1, 0, 0, 0, 0), (.iload 4, 2, 0, 0, 0, 0), (.if_icmp .eq 20, 3, 120, 0, 0, 0), (.aload_n 0, 1, 0, 0, 0, 0), (.getfield 13, 3, 6, 3, 0, 0), (.iload_n 2, 1, 0, 0, 0, 0), (.iconst 2, 1, 0, 0, 2, 0), (.iadd, 1, 0, 0, 0, 0), (.iaload, 1, 0, 0, 0, 0), (.iload 4, 2, 0, 0, 0, 0), (.if_icmp .eq 7, 3, 120, 0, 0, 0), (.iconst 1, 1, 0, 0, 1, 0), (.goto 4, 3, 121, 0, 0, 0)]
def zb_168_120 : List zN := [(.iconst 0, 1, 0, 0, 0, 0)]
def zb_168_121 : List zN := [(.istore 5, 2, 0, 0, 0, 0), (.iload 5, 2, 0, 0, 0, 0), (.ifCond .eq 14, 3, 139, 0, 0, 0), (.aload_n 0, 1, 0, 0, 0, 0), (.getfield 45, 3, 6, 14, 0, 0), (.iload_n 3, 1, 0, 0, 0, 0), (.iload 4, 2, 0, 0, 0, 0), (.iastore, 1, 0, 0, 0, 0), (.iinc 3 1, 3, 0, 0, 1, 0)]
def zb_168_139 : List zN := [(.iinc 4 1, 3, 0, 0, 1, 0), (.goto (-74), 3, 68, 0, 0, 0)]
def zb_168_145 : List zN := [(.return_, 1, 0, 0, 0, 0)]
def zc_168 (pc : Nat) : List zN := if pc = 0 then zb_168_0 else if pc = 22 then zb_168_22 else if pc = 59 then zb_168_59 else if pc = 65 then zb_168_65 else if pc = 68 then zb_168_68 else if pc = 120 then zb_168_120 else if pc = 121 then zb_168_121 else if pc = 139 then zb_168_139 else if pc = 145 then zb_168_145 else []
def zb_169_0 : List zN := [(.aload_n 0, 1, 0, 0, 0, 0), (.aload_n 0, 1, 0, 0, 0, 0), (.getfield 39, 3, 6, 12, 0, 0), (.aload_n 0, 1, 0, 0, 0, 0), (.getfield 42, 3, 6, 13, 0, 0), (.iconst 0, 1, 0, 0, 0, 0), (.invokevirtual 65, 3, 127, 3, 0, 0), (.aload_n 0, 1, 0, 0, 0, 0), (.iload_n 1, 1, 0, 0, 0, 0), (.invokevirtual 68, 3, 126, 1, 0, 0), (.ireturn, 1, 0, 0, 0, 0)]
def zc_169 (pc : Nat) : List zN := if pc = 0 then zb_169_0 else []
def zb_170_0 : List zN := [(.iconst 0, 1, 0, 0, 0, 0), (.istore_n 2, 1, 0, 0, 0, 0)]
def zb_170_2 : List zN := [(.iload_n 2, 1, 0, 0, 0, 0), (.sipush 891, 3, 0, 0, 891, 0), (.if_icmp .ge 35, 3, 41, 0, 0, 0), (.aload_n 0, 1, 0, 0, 0, 0), (.getfield 13, 3, 6, 3, 0, 0), (.iload_n 2, 1, 0, 0, 0, 0), (.iaload, 1, 0, 0, 0, 0), (.istore_n 3, 1, 0, 0, 0, 0), (.aload_n 0, 1, 0, 0, 0, 0), (.getfield 13, 3, 6, 3, 0, 0), (.iload_n 2, 1, 0, 0, 0, 0), (.aload_n 0, 1, 0, 0, 0, 0), (.getfield 39, 3, 6, 12, 0, 0), (.iload_n 2, 1, 0, 0, 0, 0), (.iaload, 1, 0, 0, 0, 0), (.iastore, 1, 0, 0, 0, 0), (.aload_n 0, 1, 0, 0, 0, 0), (.getfield 39, 3, 6, 12, 0, 0), (.iload_n 2, 1, 0, 0, 0, 0), (.iload_n 3, 1, 0, 0, 0, 0), (.iastore, 1, 0, 0, 0, 0), (.iinc 2 1, 3, 0, 0, 1, 0), (.goto (-36), 3, 2, 0, 0, 0)]
def zb_170_41 : List zN := [(.iconst 0, 1, 0, 0, 0, 0), (.istore_n 2, 1, 0, 0, 0, 0)]
def zb_170_43 : List zN := [(.iload_n 2, 1, 0, 0, 0, 0), (.bipush 88, 2, 0, 0, 88, 0), (.if_icmp .ge 35, 3, 81, 0, 0, 0), (.aload_n 0, 1, 0, 0, 0, 0), (.getfield 16, 3, 6, 4, 0, 0), (.iload_n 2, 1, 0, 0, 0, 0), (.laload, 1, 0, 0, 0, 0), (.lstore_n 3, 1, 0, 0, 0, 0), (.aload_n 0, 1, 0, 0, 0, 0), (.getfield 16, 3, 6, 4, 0, 0), (.iload_n 2, 1, 0, 0, 0, 0), (.aload_n 0, 1, 0, 0, 0, 0), (.getfield 42, 3, 6, 13, 0, 0), (.iload_n 2, 1, 0, 0, 0, 0), (.laload, 1, 0, 0, 0, 0), (.lastore, 1, 0, 0, 0, 0), (.aload_n 0, 1, 0, 0, 0, 0), (.getfield 42, 3, 6, 13, 0, 0), (.iload_n 2, 1, 0, 0, 0, 0), (.lload_n 3, 1, 0, 0, 0, 0), (.lastore, 1, 0, 0, 0, 0), (.iinc 2 1, 3, 0, 0, 1, 0), (.goto (-35), 3, 43, 0, 0, 0)]
def zb_170_81 : List zN := [(.aload_n 0, 1, 0, 0, 0, 0), (.iload_n 1, 1, 0, 0, 0, 0), (.invokevirtual 72, 3, 134, 1, 0, 0), (.aload_n 0, 1, 0, 0, 0, 0), (.aload_n 0, 1, 0, 0, 0, 0), (.getfield 39, 3, 6, 12, 0, 0), (.aload_n 0, 1, 0, 0, 0, 0), (.getfield 42, 3, 6, 13, 0, 0), (.iconst 0, 1, 0, 0, 0, 0), (.invokevirtual 65, 3, 127, 3, 0, 0), (.return_, 1, 0, 0, 0, 0)]
def zc_170 (pc : Nat) : List zN := if pc = 0 then zb_170_0 else if pc = 2 then zb_170_2 else if pc = 41 then zb_170_41 else if pc = 43 then zb_170_43 else if pc = 81 then zb_170_81 else []
def zb_171_0 : List zN := [(.aload_n 0, 1, 0, 0, 0, 0), (.iconst 0, 1, 0, 0, 0, 0), (.putfield 51, 3, 6, 0, 0, 0), (.iload_n 1, 1, 0, 0, 0, 0), (.i2l, 1, 0, 0, 0, 0), (.lconst 0, 1, 0, 0, 0, 0), (.lconst 1, 1, 0, 0, 0, 1), (.invokestatic 79, 3, 130, 3, 0, 0), (.ifCond .eq 23, 3, 35, 0, 0, 0), (.iload_n 2, 1, 0, 0, 0, 0), (.i2l, 1, 0, 0, 0, 0), (.lconst 0, 1, 0, 0, 0, 0), (.iload_n 1, 1, 0, 0, 0, 0), (.ifCond .ne 9, 3, 28, 0, 0, 0), (.ldc2_w 207, 3, 0, 0, 0, 60), (.goto 4, 3, 29, 0, 0, 0)]
def zb_171_28 : List zN := [(.lconst 1, 1, 0, 0, 0, 1)]
def zb_171_29 : List zN := [(.invokestatic 79, 3, 130, 3, 0, 0), (.ifCond .ne 9, 3, 41, 0, 0, 0)]
def zb_171_35 : List zN := [(.aload_n 0, 1, 0, 0, 0, 0), (.iconst (-1), 1, 0, 0, (-1), 0), (.invokevirtual 68, 3, 126, 1, 0, 0), (.ireturn, 1, 0, 0, 0, 0)]
def zb_171_41 : List zN := [(.aload_n 0, 1, 0, 0, 0, 0), (.iconst 4, 1, 0, 0, 4, 0), (.iload_n 1, 1, 0, 0, 0, 0), (.iadd, 1, 0, 0, 0, 0), (.iload_n 2, 1, 0, 0, 0, 0), (.bipush 8, 2, 0, 0, 8, 0), (.invokevirtual 169, 3, 152, 3, 0, 0), (.ireturn, 1, 0, 0, 0, 0)]
def zc_171 (pc : Nat) : List zN := if pc = 0 then zb_171_0 else if pc = 28 then zb_171_28 else if pc = 29 then zb_171_29 else if pc = 35 then zb_171_35 else if pc = 41 then zb_171_41 else []
def zb_172_0 : List zN := [(.aload_n 0, 1, 0, 0, 0, 0), (.iconst 0, 1, 0, 0, 0, 0), (.putfield 51, 3, 6, 0, 0, 0), (.iload_n 3, 1, 0, 0, 0, 0), (.invokestatic 183, 3, 160, 1, 0, 0), (.ifCond .eq 42, 3, 51, 0, 0, 0), (.iload 4, 2, 0, 0, 0, 0), (.i2l, 1, 0, 0, 0, 0), (.lconst 1, 1, 0, 0, 0, 1), (.ldc2_w 196, 3, 0, 0, 0, 9999), (.invokestatic 79, 3, 130, 3, 0, 0), (.ifCond .eq 29, 3, 51, 0, 0, 0), (.iload 5, 2, 0, 0, 0, 0), (.i2l, 1, 0, 0, 0, 0), (.lconst 1, 1, 0, 0, 0, 1), (.ldc2_w 209, 3, 0, 0, 0, 90), (.invokestatic 79, 3, 130, 3, 0, 0), (.ifCond .eq 16, 3, 51, 0, 0, 0), (.iload 6, 2, 0, 0, 0, 0), (.i2l, 1, 0, 0, 0, 0), (.lconst 0, 1, 0, 0, 0, 0), (.ldc2_w 211, 3, 0, 0, 0, 9), (.invokestatic 79, 3, 130, 3, 0, 0), (.ifCond .ne 9, 3, 57, 0, 0, 0)]
def zb_172_51 : List zN := [(.aload_n 0, 1, 0, 0, 0, 0), (.iconst (-1), 1, 0, 0, (-1), 0), (.invokevirtual 68, 3, 126, 1, 0, 0), (.ireturn, 1, 0, 0, 0, 0)]
def zb_172_57 : List zN := [(.aload_n 0, 1, 0, 0, 0, 0), (.iload_n 1, 1, 0, 0, 0, 0), (.invokevirtual 180, 3, 158, 1, 0, 0), (.ifCond .eq 11, 3, 73, 0, 0, 0), (.aload_n 0, 1, 0, 0, 0, 0), (.iload_n 2, 1, 0, 0, 0, 0), (.invokevirtual 180, 3, 158, 1, 0, 0), (.ifCond .ne 10, 3, 80, 0, 0, 0)]
def zb_172_73 : List zN := [(.aload_n 0, 1, 0, 0, 0, 0), (.bipush (-2), 2, 0, 0, (-2), 0), (.invokevirtual 68, 3, 126, 1, 0, 0), (.ireturn, 1, 0, 0, 0, 0)]
def zb_172_80 : List zN := [(.iload_n 1, 1, 0, 0, 0, 0), (.iload_n 2, 1, 0, 0, 0, 0), (.if_icmp .eq 19, 3, 101, 0, 0, 0), (.aload_n 0, 1, 0, 0, 0, 0), (.getfield 13, 3, 6, 3, 0, 0), (.iload_n 1, 1, 0, 0, 0, 0), (.invokestatic 115, 3, 147, 1, 0, 0), (.iload_n 3, 1, 0, 0, 0, 0), (.iadd, 1, 0, 0, 0, 0), (.iaload, 1, 0, 0, 0, 0), (.iload 4, 2, 0, 0, 0, 0), (.if_icmp .ge 10, 3, 108, 0, 0, 0)]
def zb_172_101 : List zN := [(.aload_n 0, 1, 0, 0, 0, 0), (.bipush (-4), 2, 0, 0, (-4), 0), (.invokevirtual 68, 3, 126, 1, 0, 0), (.ireturn, 1, 0, 0, 0, 0)]
def zb_172_108 : List zN := [(.aload_n 0, 1, 0, 0, 0, 0), (.getfield 13, 3, 6, 3, 0, 0), (.iconst 3, 1, 0, 0, 3, 0), (.iaload, 1, 0, 0, 0, 0), (.istore 7, 2, 0, 0, 0, 0), (.iload 7, 2, 0, 0, 0, 0), (.bipush 40, 2, 0, 0, 40, 0), (.if_icmp .ne 10, 3, 130, 0, 0, 0), (.aload_n 0, 1, 0, 0, 0, 0), (.bipush (-5), 2, 0, 0, (-5), 0), (.invokevirtual 68, 3, 126, 1, 0, 0), (.ireturn, 1, 0, 0, 0, 0)]
def zb_172_130 : List zN := [(.aload_n 0, 1, 0, 0, 0, 0), (.bipush 9, 2, 0, 0, 9, 0), (.invokevirtual 72, 3, 134, 1, 0, 0), (.iload 7, 2, 0, 0, 0, 0), (.invokestatic 85, 3, 138, 1, 0, 0), (.istore 8, 2, 0, 0, 0, 0), (.iconst 0, 1, 0, 0, 0, 0), (.istore 9, 2, 0, 0, 0, 0)]
def zb_172_146 : List zN := [(.iload 9, 2, 0, 0, 0, 0), (.bipush 17, 2, 0, 0, 17, 0), (.if_icmp .ge 20, 3, 170, 0, 0, 0), (.aload_n 0, 1, 0, 0, 0, 0), (.getfield 13, 3, 6, 3, 0, 0), (.iload 8, 2, 0, 0, 0, 0), (.iload 9, 2, 0, 0, 0, 0), (.iadd, 1, 0, 0, 0, 0), (.iconst 0, 1, 0, 0, 0, 0), (.iastore, 1, 0, 0, 0, 0), (.iinc 9 1, 3, 0, 0, 1, 0), (.goto (-21), 3, 146, 0, 0, 0)]
def zb_172_170 : List zN := [(.aload_n 0, 1, 0, 0, 0, 0), (.getfield 16, 3, 6, 4, 0, 0), (.bipush 8, 2, 0, 0, 8, 0), (.iconst 2, 1, 0, 0, 2, 0), (.iload 7, 2, 0, 0, 0, 0), (.imul, 1, 0, 0, 0, 0), (.iadd, 1, 0, 0, 0, 0), (.lconst 0, 1, 0, 0, 0, 0), (.lastore, 1, 0, 0, 0, 0), (.aload_n 0, 1, 0, 0, 0, 0), (.getfield 16, 3, 6, 4, 0, 0), (.bipush 9, 2, 0, 0, 9, 0), (.iconst 2, 1, 0, 0, 2, 0), (.iload 7, 2, 0, 0, 0, 0), (.imul, 1, 0, 0, 0, 0), (.iadd, 1, 0, 0, 0, 0), (.lconst 0, 1, 0, 0, 0, 0), (.lastore, 1, 0, 0, 0, 0), (.aload_n 0, 1, 0, 0, 0, 0), (.getfield 13, 3, 6, 3, 0, 0), (.iload 8, 2, 0, 0, 0, 0), (.iload_n 1, 1, 0, 0, 0, 0), (.iastore, 1, 0, 0, 0, 0), (.aload_n 0, 1, 0, 0, 0, 0), (.getfield 13, 3, 6, 3, 0, 0), (.iload 8, 2, 0, 0, 0, 0), (.iconst 1, 1, 0, 0, 1, 0), (.iadd, 1, 0, 0, 0, 0), (.iload_n 2, 1, 0, 0, 0, 0), (.iastore, 1, 0, 0, 0, 0), (.aload_n 0, 1, 0, 0, 0, 0), (.getfield 13, 3, 6, 3, 0, 0), (.iload 8, 2, 0, 0, 0, 0), (.iconst 2, 1, 0, 0, 2, 0), (.iadd, 1, 0, 0, 0, 0), (.iload_n 3, 1, 0, 0, 0, 0), (.iastore, 1, 0, 0, 0, 0), (.aload_n 0, 1, 0, 0, 0, 0), (.getfield 13, 3, 6, 3, 0, 0), (.iload 8, 2, 0, 0, 0, 0), (.iconst 3, 1, 0, 0, 3, 0), (.iadd, 1, 0, 0, 0, 0), (.iload 4, 2, 0, 0, 0, 0), (.iastore, 1, 0, 0, 0, 0), (.aload_n 0, 1, 0, 0, 0, 0), (.getfield 13, 3, 6, 3, 0, 0), (.iload 8, 2, 0, 0, 0, 0), (.iconst 4, 1, 0, 0, 4, 0), (.iadd, 1, 0, 0, 0, 0), (.iload 5, 2, 0, 0, 0, 0), (.iastore, 1, 0, 0, 0, 0), (.aload_n 0, 1, 0, 0, 0, 0), (.getfield 13, 3, 6, 3, 0, 0), (.iload 8, 2, 0, 0, 0, 0), (.iconst 5, 1, 0, 0, 5, 0), (.iadd, 1, 0, 0, 0, 0), (.iload 6, 2, 0, 0, 0, 0), (.iastore, 1, 0, 0, 0, 0), (.aload_n 0, 1, 0, 0, 0, 0), (.getfield 13, 3, 6, 3, 0, 0), (.iload 8, 2, 0, 0, 0, 0), (.bipush 12, 2, 0, 0, 12, 0), (.iadd, 1, 0, 0, 0, 0), (.iconst (-1), 1, 0, 0, (-1), 0), (.iastore, 1, 0, 0, 0, 0), (.aload_n 0, 1, 0, 0, 0, 0), (.getfield 13, 3, 6, 3, 0, 0), (.iload_n 1, 1, 0, 0, 0, 0), (.invokestatic 115, 3, 147, 1, 0, 0), (.iload_n 3, 1, 0, 0, 0, 0), (.iadd, 1, 0, 0, 0, 0), (.dup2, 1, 0, 0, 0, 0), (.iaload, 1, 0, 0, 0, 0), (.iload 4, 2, 0, 0, 0, 0), (.isub, 1, 0, 0, 0, 0), (.iastore, 1, 0, 0, 0, 0), (.aload_n 0, 1, 0, 0, 0, 0), (.getfield 13, 3, 6, 3, 0, 0), (.iconst 3, 1, 0, 0, 3, 0), (.dup2, 1, 0, 0, 0, 0), (.iaload, 1, 0, 0, 0, 0), (.iconst 1, 1, 0, 0, 1, 0), (.iadd, 1, 0, 0, 0, 0), (.iastore, 1, 0, 0, 0, 0), (.aload_n 0, 1, 0, 0, 0, 0), (.iload 7, 2, 0, 0, 0, 0), (.invokevirtual 161, 3, 136, 1, 0, 0), (.ireturn, 1, 0, 0, 0, 0)]
def zc_172 (pc : Nat) : List zN := if pc = 0 then zb_172_0 else if pc = 51 then zb_172_51 else if pc = 57 then zb_172_57 else if pc = 73 then zb_172_73 else if pc = 80 then zb_172_80 else if pc = 101 then zb_172_101 else if pc = 108 then zb_172_108 else if pc = 130 then zb_172_130 else if pc = 146 then zb_172_146 else if pc = 170 then zb_172_170 else []
def zb_173_0 : List zN := [(.aload_n 0, 1, 0, 0, 0, 0), (.iconst 0, 1, 0, 0, 0, 0), (.putfield 51, 3, 6, 0, 0, 0), (.aload_n 0, 1, 0, 0, 0, 0), (.iload_n 1, 1, 0, 0, 0, 0), (.invokevirtual 88, 3, 174, 1, 0, 0), (.ifCond .ne 10, 3, 20, 0, 0, 0), (.aload_n 0, 1, 0, 0, 0, 0), (.bipush (-2), 2, 0, 0, (-2), 0), (.invokevirtual 68, 3, 126, 1, 0, 0), (.ireturn, 1, 0, 0, 0, 0)]
def zb_173_20 : List zN := [(.iload_n 1, 1, 0, 0, 0, 0), (.invokestatic 85, 3, 138, 1, 0, 0), (.istore_n 2, 1, 0, 0, 0, 0), (.aload_n 0, 1, 0, 0, 0, 0), (.getfield 13, 3, 6, 3, 0, 0), (.iload_n 2, 1, 0, 0, 0, 0), (.iaload, 1, 0, 0, 0, 0), (.invokestatic 115, 3, 147, 1, 0, 0), (.aload_n 0, 1, 0, 0, 0, 0), (.getfield 13, 3, 6, 3, 0, 0), (.iload_n 2, 1, 0, 0, 0, 0), (.iconst 2, 1, 0, 0, 2, 0), (.iadd, 1, 0, 0, 0, 0), (.iaload, 1, 0, 0, 0, 0), (.iadd, 1, 0, 0, 0, 0), (.istore_n 3, 1, 0, 0, 0, 0), (.aload_n 0, 1, 0, 0, 0, 0), (.getfield 13, 3, 6, 3, 0, 0), (.iload_n 2, 1, 0, 0, 0, 0), (.bipush 6, 2, 0, 0, 6, 0), (.iadd, 1, 0, 0, 0, 0), (.iaload, 1, 0, 0, 0, 0), (.ifCond .ne 23, 3, 76, 0, 0, 0), (.aload_n 0, 1, 0, 0, 0, 0), (.getfield 13, 3, 6, 3, 0, 0), (.iload_n 3, 1, 0, 0, 0, 0), (.iaload, 1, 0, 0, 0, 0), (.aload_n 0, 1, 0, 0, 0, 0), (.getfield 13, 3, 6, 3, 0, 0), (.iload_n 2, 1, 0, 0, 0, 0), (.iconst 3, 1, 0, 0, 3, 0), (.iadd, 1, 0, 0, 0, 0), (.iaload, 1, 0, 0, 0, 0), (.iadd, 1, 0, 0, 0, 0), (.ldc 188, 2, 0, 0, 99999, 0), (.if_icmp .le 10, 3, 83, 0, 0, 0)]
def zb_173_76 : List zN := [(.aload_n 0, 1, 0, 0, 0, 0), (.bipush (-4), 2, 0, 0, (-4), 0), (.invokevirtual 68, 3, 126, 1, 0, 0), (.ireturn, 1, 0, 0, 0, 0)]
def zb_173_83 : List zN := [(.aload_n 0, 1, 0, 0, 0, 0), (.bipush 10, 2, 0, 0, 10, 0), (.invokevirtual 72, 3, 134, 1, 0, 0), (.aload_n 0, 1, 0, 0, 0, 0), (.getfield 13, 3, 6, 3, 0, 0), (.iload_n 3, 1, 0, 0, 0, 0), (.dup2, 1, 0, 0, 0, 0), (.iaload, 1, 0, 0, 0, 0), (.aload_n 0, 1, 0, 0, 0, 0), (.getfield 13, 3, 6, 3, 0, 0), (.iload_n 2, 1, 0, 0, 0, 0), (.iconst 3, 1, 0, 0, 3, 0), (.iadd, 1, 0, 0, 0, 0), (.iaload, 1, 0, 0, 0, 0), (.iadd, 1, 0, 0, 0, 0), (.iastore, 1, 0, 0, 0, 0), (.aload_n 0, 1, 0, 0, 0, 0), (.getfield 13, 3, 6, 3, 0, 0), (.iload_n 2, 1, 0, 0, 0, 0), (.bipush 6, 2, 0, 0, 6, 0), (.iadd, 1, 0, 0, 0, 0), (.iconst 4, 1, 0, 0, 4, 0), (.iastore, 1, 0, 0, 0, 0), (.aload_n 0, 1, 0, 0, 0, 0), (.invokevirtual 158, 3, 137, 0, 0, 0), (.aload_n 0, 1, 0, 0, 0, 0), (.aload_n 0, 1, 0, 0, 0, 0), (.iconst 0, 1, 0, 0, 0, 0), (.invokevirtual 213, 3, 175, 1, 0, 0), (.invokevirtual 76, 3, 128, 1, 0, 0), (.ireturn, 1, 0, 0, 0, 0)]
def zc_173 (pc : Nat) : List zN := if pc = 0 then zb_173_0 else if pc = 20 then zb_173_20 else if pc = 76 then zb_173_76 else if pc = 83 then zb_173_83 else []
def zb_174_0 : List zN := [(.iload_n 1, 1, 0, 0, 0, 0), (.i2l, 1, 0, 0, 0, 0), (.lconst 0, 1, 0, 0, 0, 0), (.aload_n 0, 1, 0, 0, 0, 0), (.getfield 13, 3, 6, 3, 0, 0), (.iconst 3, 1, 0, 0, 3, 0), (.iaload, 1, 0, 0, 0, 0), (.i2l, 1, 0, 0, 0, 0), (.lconst 1, 1, 0, 0, 0, 1), (.lsub, 1, 0, 0, 0, 0), (.invokestatic 79, 3, 130, 3, 0, 0), (.ireturn, 1, 0, 0, 0, 0)]
def zc_174 (pc : Nat) : List zN := if pc = 0 then zb_174_0 else []
def zb_175_0 : List zN := [(.iconst 0, 1, 0, 0, 0, 0), (.istore_n 2, 1, 0, 0, 0, 0), (.iconst 0, 1, 0, 0, 0, 0), (.istore_n 3, 1, 0, 0, 0, 0)]
def zb_175_4 : List zN := [(.iload_n 3, 1, 0, 0, 0, 0), (.aload_n 0, 1, 0, 0, 0, 0), (.getfield 13, 3, 6, 3, 0, 0), (.iconst 3, 1, 0, 0, 3, 0), (.iaload, 1, 0, 0, 0, 0), (.if_icmp .ge 26, 3, 37, 0, 0, 0), (.iload_n 2, 1, 0, 0, 0, 0), (.aload_n 0, 1, 0, 0, 0, 0), (.iload_n 3, 1, 0, 0, 0, 0), (.invokevirtual 92, 3, 164, 1, 0, 0), (.iload_n 1, 1, 0, 0, 0, 0), (.if_icmp .ne 7, 3, 28, 0, 0, 0), (.iconst 1, 1, 0, 0, 1, 0), (.goto 4, 3, 29, 0, 0, 0)]
def zb_175_28 : List zN := [(.iconst 0, 1, 0, 0, 0, 0)]
def zb_175_29 : List zN := [(.iadd, 1, 0, 0, 0, 0), (.istore_n 2, 1, 0, 0, 0, 0), (.iinc 3 1, 3, 0, 0, 1, 0), (.goto (-30), 3, 4, 0, 0, 0)]
def zb_175_37 : List zN := [(.iload_n 2, 1, 0, 0, 0, 0), (.ireturn, 1, 0, 0, 0, 0)]
def zc_175 (pc : Nat) : List zN := if pc = 0 then zb_175_0 else if pc = 4 then zb_175_4 else if pc = 28 then zb_175_28 else if pc = 29 then zb_175_29 else if pc = 37 then zb_175_37 else []
def zb_176_0 : List zN := [(.aload_n 0, 1, 0, 0, 0, 0), (.iconst 0, 1, 0, 0, 0, 0), (.putfield 51, 3, 6, 0, 0, 0), (.iload_n 2, 1, 0, 0, 0, 0), (.i2l, 1, 0, 0, 0, 0), (.lconst 0, 1, 0, 0, 0, 0), (.ldc2_w 196, 3, 0, 0, 0, 9999), (.invokestatic 79, 3, 130, 3, 0, 0), (.ifCond .eq 20, 3, 34, 0, 0, 0), (.iload_n 3, 1, 0, 0, 0, 0), (.ifCond .eq 22, 3, 40, 0, 0, 0), (.iload 4, 2, 0, 0, 0, 0), (.i2l, 1, 0, 0, 0, 0), (.lconst 0, 1, 0, 0, 0, 0), (.ldc2_w 196, 3, 0, 0, 0, 9999), (.invokestatic 79, 3, 130, 3, 0, 0), (.ifCond .ne 9, 3, 40, 0, 0, 0)]
def zb_176_34 : List zN := [(.aload_n 0, 1, 0, 0, 0, 0), (.iconst (-1), 1, 0, 0, (-1), 0), (.invokevirtual 68, 3, 126, 1, 0, 0), (.ireturn, 1, 0, 0, 0, 0)]
def zb_176_40 : List zN := [(.aload_n 0, 1, 0, 0, 0, 0), (.iload_n 1, 1, 0, 0, 0, 0), (.invokevirtual 88, 3, 174, 1, 0, 0), (.ifCond .ne 10, 3, 55, 0, 0, 0), (.aload_n 0, 1, 0, 0, 0, 0), (.bipush (-2), 2, 0, 0, (-2), 0), (.invokevirtual 68, 3, 126, 1, 0, 0), (.ireturn, 1, 0, 0, 0, 0)]
def zb_176_55 : List zN := [(.aload_n 0, 1, 0, 0, 0, 0), (.iload_n 1, 1, 0, 0, 0, 0), (.invokevirtual 222, 3, 177, 1, 0, 0), (.ifCond .eq 41, 3, 101, 0, 0, 0), (.iload_n 2, 1, 0, 0, 0, 0), (.aload_n 0, 1, 0, 0, 0, 0), (.iload_n 1, 1, 0, 0, 0, 0), (.invokevirtual 108, 3, 140, 1, 0, 0), (.if_icmp .gt 32, 3, 101, 0, 0, 0), (.aload_n 0, 1, 0, 0, 0, 0), (.getfield 13, 3, 6, 3, 0, 0), (.aload_n 0, 1, 0, 0, 0, 0), (.iload_n 1, 1, 0, 0, 0, 0), (.invokevirtual 216, 3, 178, 1, 0, 0), (.iaload, 1, 0, 0, 0, 0), (.iload_n 2, 1, 0, 0, 0, 0), (.iadd, 1, 0, 0, 0, 0), (.ldc 188, 2, 0, 0, 99999, 0), (.if_icmp .gt 15, 3, 101, 0, 0, 0), (.iload_n 3, 1, 0, 0, 0, 0), (.ifCond .ne 7, 3, 97, 0, 0, 0), (.iload_n 2, 1, 0, 0, 0, 0), (.ifCond .le 7, 3, 101, 0, 0, 0)]
def zb_176_97 : List zN := [(.iconst 1, 1, 0, 0, 1, 0), (.goto 4, 3, 102, 0, 0, 0)]
def zb_176_101 : List zN := [(.iconst 0, 1, 0, 0, 0, 0)]
def zb_176_102 : List zN := [(.istore 5, 2, 0, 0, 0, 0), (.iload 5, 2, 0, 0, 0, 0), (.ifCond .eq 17, 3, 123, 0, 0, 0), (.iload_n 3, 1, 0, 0, 0, 0), (.ifCond .eq 20, 3, 130, 0, 0, 0), (.aload_n 0, 1, 0, 0, 0, 0), (.iload_n 1, 1, 0, 0, 0, 0), (.iload 4, 2, 0, 0, 0, 0), (.invokevirtual 225, 3, 179, 2, 0, 0), (.ifCond .ne 10, 3, 130, 0, 0, 0)]
def zb_176_123 : List zN := [(.aload_n 0, 1, 0, 0, 0, 0), (.bipush (-4), 2, 0, 0, (-4), 0), (.invokevirtual 68, 3, 126, 1, 0, 0), (.ireturn, 1, 0, 0, 0, 0)]
def zb_176_130 : List zN := [(.aload_n 0, 1, 0, 0, 0, 0), (.bipush 11, 2, 0, 0, 11, 0), (.invokevirtual 72, 3, 134, 1, 0, 0), (.aload_n 0, 1, 0, 0, 0, 0), (.iload_n 1, 1, 0, 0, 0, 0), (.iload_n 2, 1, 0, 0, 0, 0), (.invokevirtual 228, 3, 181, 2, 0, 0), (.aload_n 0, 1, 0, 0, 0, 0), (.iload_n 1, 1, 0, 0, 0, 0), (.invokevirtual 108, 3, 140, 1, 0, 0), (.istore 6, 2, 0, 0, 0, 0), (.iload_n 3, 1, 0, 0, 0, 0), (.ifCond .ne 8, 3, 158, 0, 0, 0), (.iload 6, 2, 0, 0, 0, 0), (.ifCond .ne 35, 3, 190, 0, 0, 0)]
def zb_176_158 : List zN := [(.aload_n 0, 1, 0, 0, 0, 0), (.iload_n 1, 1, 0, 0, 0, 0), (.aload_n 0, 1, 0, 0, 0, 0), (.iload_n 1, 1, 0, 0, 0, 0), (.invokevirtual 231, 3, 182, 1, 0, 0), (.iload_n 3, 1, 0, 0, 0, 0), (.ifCond .eq 8, 3, 174, 0, 0, 0), (.iload 4, 2, 0, 0, 0, 0), (.goto 15, 3, 186, 0, 0, 0)]
def zb_176_174 : List zN := [(.aload_n 0, 1, 0, 0, 0, 0), (.getfield 13, 3, 6, 3, 0, 0), (.iload_n 1, 1, 0, 0, 0, 0), (.invokestatic 85, 3, 138, 1, 0, 0), (.bipush 7, 2, 0, 0, 7, 0), (.iadd, 1, 0, 0, 0, 0), (.iaload, 1, 0, 0, 0, 0)]
def zb_176_186 : List zN := [(.iconst 2, 1, 0, 0, 2, 0), (.invokevirtual 234, 3, 183, 4, 0, 0)]
def zb_176_190 : List zN := [(.aload_n 0, 1, 0, 0, 0, 0), (.iload 6, 2, 0, 0, 0, 0), (.invokevirtual 161, 3, 136, 1, 0, 0), (.ireturn, 1, 0, 0, 0, 0)]
def zc_176 (pc : Nat) : List zN := if pc = 0 then zb_176_0 else if pc = 34 then zb_176_34 else if pc = 40 then zb_176_40 else if pc = 55 then zb_176_55 else if pc = 97 then zb_176_97 else if pc = 101 then zb_176_101 else if pc = 102 then zb_176_102 else if pc = 123 then zb_176_123 else if pc = 130 then zb_176_130 else if pc = 158 then zb_176_158 else if pc = 174 then zb_176_174 else if pc = 186 then zb_176_186 else if pc = 190 then zb_176_190 else []
def zb_177_0 : List zN := [(.aload_n 0, 1, 0, 0, 0, 0), (.iload_n 1, 1, 0, 0, 0, 0), (.invokevirtual 88, 3, 174, 1, 0, 0), (.ifCond .eq 16, 3, 21, 0, 0, 0), (.aload_n 0, 1, 0, 0, 0, 0), (.iload_n 1, 1, 0, 0, 0, 0), (.invokevirtual 92, 3, 164, 1, 0, 0), (.iconst 1, 1, 0, 0, 1, 0), (.if_icmp .ne 7, 3, 21, 0, 0, 0), (.iconst 1, 1, 0, 0, 1, 0), (.goto 4, 3, 22, 0, 0, 0)]
def zb_177_21 : List zN := [(.iconst 0, 1, 0, 0, 0, 0)]
def zb_177_22 : List zN := [(.ireturn, 1, 0, 0, 0, 0)]
def zc_177 (pc : Nat) : List zN := if pc = 0 then zb_177_0 else if pc = 21 then zb_177_21 else if pc = 22 then zb_177_22 else []
def zb_178_0 : List zN := [(.aload_n 0, 1, 0, 0, 0, 0), (.getfield 13, 3, 6, 3, 0, 0), (.iload_n 1, 1, 0, 0, 0, 0), (.invokestatic 85, 3, 138, 1, 0, 0), (.iconst 1, 1, 0, 0, 1, 0), (.iadd, 1, 0, 0, 0, 0), (.iaload, 1, 0, 0, 0, 0), (.invokestatic 115, 3, 147, 1, 0, 0), (.aload_n 0, 1, 0, 0, 0, 0), (.getfield 13, 3, 6, 3, 0, 0), (.iload_n 1, 1, 0, 0, 0, 0), (.invokestatic 85, 3, 138, 1, 0, 0), (.iconst 2, 1, 0, 0, 2, 0), (.iadd, 1, 0, 0, 0, 0), (.iaload, 1, 0, 0, 0, 0), (.iadd, 1, 0, 0, 0, 0), (.ireturn, 1, 0, 0, 0, 0)]
def zc_178 (pc : Nat) : List zN := if pc = 0 then zb_178_0 else []
def zb_179_0 : List zN := [(.iload_n 2, 1, 0, 0, 0, 0), (.i2l, 1, 0, 0, 0, 0), (.aload_n 0, 1, 0, 0, 0, 0), (.getfield 13, 3, 6, 3, 0, 0), (.iload_n 1, 1, 0, 0, 0, 0), (.invokestatic 85, 3, 138, 1, 0, 0), (.bipush 7, 2, 0, 0, 7, 0), (.iadd, 1, 0, 0, 0, 0), (.iaload, 1, 0, 0, 0, 0), (.i2l, 1, 0, 0, 0, 0), (.aload_n 0, 1, 0, 0, 0, 0), (.getfield 13, 3, 6, 3, 0, 0), (.iconst 0, 1, 0, 0, 0, 0), (.iaload, 1, 0, 0, 0, 0), (.aload_n 0, 1, 0, 0, 0, 0), (.iload_n 1, 1, 0, 0, 0, 0), (.invokevirtual 219, 3, 180, 1, 0, 0), (.invokestatic 124, 3, 149, 2, 0, 0), (.i2l, 1, 0, 0, 0, 0), (.invokestatic 79, 3, 130, 3, 0, 0), (.ireturn, 1, 0, 0, 0, 0)]
def zc_179 (pc : Nat) : List zN := if pc = 0 then zb_179_0 else []
def zb_180_0 : List zN := [(.aload_n 0, 1, 0, 0, 0, 0), (.getfield 13, 3, 6, 3, 0, 0), (.iload_n 1, 1, 0, 0, 0, 0), (.invokestatic 85, 3, 138, 1, 0, 0), (.bipush 7, 2, 0, 0, 7, 0), (.iadd, 1, 0, 0, 0, 0), (.iaload, 1, 0, 0, 0, 0), (.aload_n 0, 1, 0, 0, 0, 0), (.getfield 13, 3, 6, 3, 0, 0), (.iload_n 1, 1, 0, 0, 0, 0), (.invokestatic 85, 3, 138, 1, 0, 0), (.iconst 4, 1, 0, 0, 4, 0), (.iadd, 1, 0, 0, 0, 0), (.iaload, 1, 0, 0, 0, 0), (.iadd, 1, 0, 0, 0, 0), (.ireturn, 1, 0, 0, 0, 0)]
def zc_180 (pc : Nat) : List zN := if pc = 0 then zb_180_0 else []
def zb_181_0 : List zN := [(.aload_n 0, 1, 0, 0, 0, 0), (.getfield 13, 3, 6, 3, 0, 0), (.aload_n 0, 1, 0, 0, 0, 0), (.iload_n 1, 1, 0, 0, 0, 0), (.invokevirtual 216, 3, 178, 1, 0, 0), (.dup2, 1, 0, 0, 0, 0), (.iaload, 1, 0, 0, 0, 0), (.iload_n 2, 1, 0, 0, 0, 0), (.iadd, 1, 0, 0, 0, 0), (.iastore, 1, 0, 0, 0, 0), (.aload_n 0, 1, 0, 0, 0, 0), (.getfield 13, 3, 6, 3, 0, 0), (.iload_n 1, 1, 0, 0, 0, 0), (.invokestatic 85, 3, 138, 1, 0, 0), (.bipush 8, 2, 0, 0, 8, 0), (.iadd, 1, 0, 0, 0, 0), (.dup2, 1, 0, 0, 0, 0), (.iaload, 1, 0, 0, 0, 0), (.iload_n 2, 1, 0, 0, 0, 0), (.iadd, 1, 0, 0, 0, 0), (.iastore, 1, 0, 0, 0, 0), (.aload_n 0, 1, 0, 0, 0, 0), (.iload_n 1, 1, 0, 0, 0, 0), (.invokevirtual 193, 3, 165, 1, 0, 0), (.pop, 1, 0, 0, 0, 0), (.return_, 1, 0, 0, 0, 0)]
def zc_181 (pc : Nat) : List zN := if pc = 0 then zb_181_0 else []
def zb_182_0 : List zN := [(.aload_n 0, 1, 0, 0, 0, 0), (.getfield 13, 3, 6, 3, 0, 0), (.iconst 0, 1, 0, 0, 0, 0), (.iaload, 1, 0, 0, 0, 0), (.aload_n 0, 1, 0, 0, 0, 0), (.iload_n 1, 1, 0, 0, 0, 0), (.invokevirtual 219, 3, 180, 1, 0, 0), (.invokestatic 124, 3, 149, 2, 0, 0), (.aload_n 0, 1, 0, 0, 0, 0), (.getfield 13, 3, 6, 3, 0, 0), (.iload_n 1, 1, 0, 0, 0, 0), (.invokestatic 85, 3, 138, 1, 0, 0), (.bipush 7, 2, 0, 0, 7, 0), (.iadd, 1, 0, 0, 0, 0), (.iaload, 1, 0, 0, 0, 0), (.isub, 1, 0, 0, 0, 0), (.ireturn, 1, 0, 0, 0, 0)]
def zc_182 (pc : Nat) : List zN := if pc = 0 then zb_182_0 else []
def zb_183_0 : List zN := [(.iload_n 1, 1, 0, 0, 0, 0), (.invokestatic 85, 3, 138, 1, 0, 0), (.istore 5, 2, 0, 0, 0, 0), (.aload_n 0, 1, 0, 0, 0, 0), (.iload_n 1, 1, 0, 0, 0, 0), (.invokevirtual 108, 3, 140, 1, 0, 0), (.istore 6, 2, 0, 0, 0, 0), (.aload_n 0, 1, 0, 0, 0, 0), (.getfield 13, 3, 6, 3, 0, 0), (.iload 5, 2, 0, 0, 0, 0), (.bipush 10, 2, 0, 0, 10, 0), (.iadd, 1, 0, 0, 0, 0), (.iload 6, 2, 0, 0, 0, 0), (.iastore, 1, 0, 0, 0, 0), (.aload_n 0, 1, 0, 0, 0, 0), (.getfield 13, 3, 6, 3, 0, 0), (.iload 5, 2, 0, 0, 0, 0), (.bipush 11, 2, 0, 0, 11, 0), (.iadd, 1, 0, 0, 0, 0), (.aload_n 0, 1, 0, 0, 0, 0), (.aload_n 0, 1, 0, 0, 0, 0), (.getfield 13, 3, 6, 3, 0, 0), (.iload 5, 2, 0, 0, 0, 0), (.iconst 2, 1, 0, 0, 2, 0), (.iadd, 1, 0, 0, 0, 0), (.iaload, 1, 0, 0, 0, 0), (.aload_n 0, 1, 0, 0, 0, 0), (.getfield 13, 3, 6, 3, 0, 0), (.iload 5, 2, 0, 0, 0, 0), (.iconst 3, 1, 0, 0, 3, 0), (.iadd, 1, 0, 0, 0, 0), (.iaload, 1, 0, 0, 0, 0), (.iload_n 2, 1, 0, 0, 0, 0), (.invokevirtual 148, 3, 184, 3, 0, 0), (.iload 6, 2, 0, 0, 0, 0), (.invokestatic 124, 3, 149, 2, 0, 0), (.iastore, 1, 0, 0, 0, 0), (.aload_n 0, 1, 0, 0, 0, 0), (.getfield 13, 3, 6, 3, 0, 0), (.iload 5, 2, 0, 0, 0, 0), (.bipush 9, 2, 0, 0, 9, 0), (.iadd, 1, 0, 0, 0, 0), (.aload_n 0, 1, 0, 0, 0, 0), (.iload_n 1, 1, 0, 0, 0, 0), (.iload 6, 2, 0, 0, 0, 0), (.iload_n 2, 1, 0, 0, 0, 0), (.iload_n 3, 1, 0, 0, 0, 0), (.invokevirtual 151, 3, 185, 4, 0, 0), (.iastore, 1, 0, 0, 0, 0), (.aload_n 0, 1, 0, 0, 0, 0), (.iload_n 1, 1, 0, 0, 0, 0), (.aload_n 0, 1, 0, 0, 0, 0), (.getfield 13, 3, 6, 3, 0, 0), (.iload 5, 2, 0, 0, 0, 0), (.bipush 9, 2, 0, 0, 9, 0), (.iadd, 1, 0, 0, 0, 0), (.iaload, 1, 0, 0, 0, 0), (.invokevirtual 155, 3, 186, 2, 0, 0), (.aload_n 0, 1, 0, 0, 0, 0), (.iload_n 1, 1, 0, 0, 0, 0), (.aload_n 0, 1, 0, 0, 0, 0), (.iload_n 1, 1, 0, 0, 0, 0), (.invokevirtual 137, 3, 166, 1, 0, 0), (.iconst (-1), 1, 0, 0, (-1), 0), (.invokevirtual 140, 3, 167, 3, 0, 0), (.aload_n 0, 1, 0, 0, 0, 0), (.getfield 13, 3, 6, 3, 0, 0), (.iload 5, 2, 0, 0, 0, 0), (.bipush 6, 2, 0, 0, 6, 0), (.iadd, 1, 0, 0, 0, 0), (.iload 4, 2, 0, 0, 0, 0), (.iastore, 1, 0, 0, 0, 0), (.return_, 1, 0, 0, 0, 0)]
def zc_183 (pc : Nat) : List zN := if pc = 0 then zb_183_0 else []
def zb_184_0 : List zN := [(.iload_n 1, 1, 0, 0, 0, 0), (.invokestatic 98, 3, 142, 1, 0, 0), (.istore 4, 2, 0, 0, 0, 0), (.iload_n 2, 1, 0, 0, 0, 0), (.aload_n 0, 1, 0, 0, 0, 0), (.getfield 13, 3, 6, 3, 0, 0), (.iload 4, 2, 0, 0, 0, 0), (.iconst 1, 1, 0, 0, 1, 0), (.iadd, 1, 0, 0, 0, 0), (.iaload, 1, 0, 0, 0, 0), (.iload_n 3, 1, 0, 0, 0, 0), (.imul, 1, 0, 0, 0, 0), (.aload_n 0, 1, 0, 0, 0, 0), (.getfield 13, 3, 6, 3, 0, 0), (.iload 4, 2, 0, 0, 0, 0), (.iconst 2, 1, 0, 0, 2, 0), (.iadd, 1, 0, 0, 0, 0), (.iaload, 1, 0, 0, 0, 0), (.invokestatic 124, 3, 149, 2, 0, 0), (.imul, 1, 0, 0, 0, 0), (.sipush 10000, 3, 0, 0, 10000, 0), (.idiv, 1, 0, 0, 0, 0), (.ireturn, 1, 0, 0, 0, 0)]
def zc_184 (pc : Nat) : List zN := if pc = 0 then zb_184_0 else []
def zb_185_0 : List zN := [(.iload_n 1, 1, 0, 0, 0, 0), (.invokestatic 85, 3, 138, 1, 0, 0), (.istore 5, 2, 0, 0, 0, 0), (.iload_n 2, 1, 0, 0, 0, 0), (.aload_n 0, 1, 0, 0, 0, 0), (.aload_n 0, 1, 0, 0, 0, 0), (.getfield 13, 3, 6, 3, 0, 0), (.iload 5, 2, 0, 0, 0, 0), (.iconst 2, 1, 0, 0, 2, 0), (.iadd, 1, 0, 0, 0, 0), (.iaload, 1, 0, 0, 0, 0), (.aload_n 0, 1, 0, 0, 0, 0), (.getfield 13, 3, 6, 3, 0, 0), (.iload 5, 2, 0, 0, 0, 0), (.iconst 3, 1, 0, 0, 3, 0), (.iadd, 1, 0, 0, 0, 0), (.iaload, 1, 0, 0, 0, 0), (.iload_n 3, 1, 0, 0, 0, 0), (.invokevirtual 148, 3, 184, 3, 0, 0), (.iload_n 2, 1, 0, 0, 0, 0), (.invokestatic 124, 3, 149, 2, 0, 0), (.isub, 1, 0, 0, 0, 0), (.aload_n 0, 1, 0, 0, 0, 0), (.aload_n 0, 1, 0, 0, 0, 0), (.getfield 13, 3, 6, 3, 0, 0), (.iload 5, 2, 0, 0, 0, 0), (.iconst 2, 1, 0, 0, 2, 0), (.iadd, 1, 0, 0, 0, 0), (.iaload, 1, 0, 0, 0, 0), (.iload 4, 2, 0, 0, 0, 0), (.invokevirtual 101, 3, 143, 2, 0, 0), (.imul, 1, 0, 0, 0, 0), (.ireturn, 1, 0, 0, 0, 0)]
def zc_185 (pc : Nat) : List zN := if pc = 0 then zb_185_0 else []
def zb_186_0 : List zN := [(.aload_n 0, 1, 0, 0, 0, 0), (.iload_n 1, 1, 0, 0, 0, 0), (.invokevirtual 127, 3, 168, 1, 0, 0), (.iload_n 2, 1, 0, 0, 0, 0), (.istore_n 3, 1, 0, 0, 0, 0), (.iconst 0, 1, 0, 0, 0, 0), (.istore 4, 2, 0, 0, 0, 0)]
def zb_186_10 : List zN := [(.iload 4, 2, 0, 0, 0, 0), (.iconst 4, 1, 0, 0, 4, 0), (.if_icmp .ge 89, 3, 102, 0, 0, 0), (.aload_n 0, 1, 0, 0, 0, 0), (.getfield 45, 3, 6, 14, 0, 0), (.iload 4, 2, 0, 0, 0, 0), (.iaload, 1, 0, 0, 0, 0), (.istore 5, 2, 0, 0, 0, 0), (.iload_n 3, 1, 0, 0, 0, 0), (.aload_n 0, 1, 0, 0, 0, 0), (.getfield 13, 3, 6, 3, 0, 0), (.iload_n 1, 1, 0, 0, 0, 0), (.invokestatic 85, 3, 138, 1, 0, 0), (.bipush 13, 2, 0, 0, 13, 0), (.iadd, 1, 0, 0, 0, 0), (.iload 5, 2, 0, 0, 0, 0), (.iadd, 1, 0, 0, 0, 0), (.iaload, 1, 0, 0, 0, 0), (.invokestatic 124, 3, 149, 2, 0, 0), (.istore 6, 2, 0, 0, 0, 0), (.aload_n 0, 1, 0, 0, 0, 0), (.getfield 13, 3, 6, 3, 0, 0), (.iload_n 1, 1, 0, 0, 0, 0), (.invokestatic 85, 3, 138, 1, 0, 0), (.bipush 13, 2, 0, 0, 13, 0), (.iadd, 1, 0, 0, 0, 0), (.iload 5, 2, 0, 0, 0, 0), (.iadd, 1, 0, 0, 0, 0), (.dup2, 1, 0, 0, 0, 0), (.iaload, 1, 0, 0, 0, 0), (.iload 6, 2, 0, 0, 0, 0), (.isub, 1, 0, 0, 0, 0), (.iastore, 1, 0, 0, 0, 0), (.aload_n 0, 1, 0, 0, 0, 0), (.getfield 13, 3, 6, 3, 0, 0), (.iload 5, 2, 0, 0, 0, 0), (.invokestatic 95, 3, 135, 1, 0, 0), (.iconst 1, 1, 0, 0, 1, 0), (.iadd, 1, 0, 0, 0, 0), (.dup2, 1, 0, 0, 0, 0), (.iaload, 1, 0, 0, 0, 0), (.iload 6, 2, 0, 0, 0, 0), (.isub, 1, 0, 0, 0, 0), (.iastore, 1, 0, 0, 0, 0), (.aload_n 0, 1, 0, 0, 0, 0), (.iload 5, 2, 0, 0, 0, 0), (.iload 6, 2, 0, 0, 0, 0), (.invokevirtual 130, 3, 187, 2, 0, 0), (.iload_n 3, 1, 0, 0, 0, 0), (.iload 6, 2, 0, 0, 0, 0), (.isub, 1, 0, 0, 0, 0), (.istore_n 3, 1, 0, 0, 0, 0), (.iinc 4 1, 3, 0, 0, 1, 0), (.goto (-89), 3, 10, 0, 0, 0)]
def zb_186_102 : List zN := [(.return_, 1, 0, 0, 0, 0)]
def zc_186 (pc : Nat) : List zN := if pc = 0 then zb_186_0 else if pc = 10 then zb_186_10 else if pc = 102 then zb_186_102 else []
def zb_187_0 : List zN := [(.aload_n 0, 1, 0, 0, 0, 0), (.getfield 13, 3, 6, 3, 0, 0), (.iload_n 1, 1, 0, 0, 0, 0), (.invokestatic 95, 3, 135, 1, 0, 0), (.iconst 2, 1, 0, 0, 2, 0), (.iadd, 1, 0, 0, 0, 0), (.dup2, 1, 0, 0, 0, 0), (.iaload, 1, 0, 0, 0, 0), (.iload_n 2, 1, 0, 0, 0, 0), (.iadd, 1, 0, 0, 0, 0), (.iastore, 1, 0, 0, 0, 0), (.aload_n 0, 1, 0, 0, 0, 0), (.getfield 16, 3, 6, 4, 0, 0), (.iconst 2, 1, 0, 0, 2, 0), (.iload_n 1, 1, 0, 0, 0, 0), (.imul, 1, 0, 0, 0, 0), (.dup2, 1, 0, 0, 0, 0), (.laload, 1, 0, 0, 0, 0), (.iload_n 2, 1, 0, 0, 0, 0), (.i2l, 1, 0, 0, 0, 0), (.ladd, 1, 0, 0, 0, 0), (.lastore, 1, 0, 0, 0, 0), (.return_, 1, 0, 0, 0, 0)]
def zc_187 (pc : Nat) : List zN := if pc = 0 then zb_187_0 else []
def zb_188_0 : List zN := [(.aload_n 0, 1, 0, 0, 0, 0), (.iconst 0, 1, 0, 0, 0, 0), (.putfield 51, 3, 6, 0, 0, 0), (.iload_n 2, 1, 0, 0, 0, 0), (.invokestatic 183, 3, 160, 1, 0, 0), (.ifCond .eq 15, 3, 24, 0, 0, 0), (.iload_n 3, 1, 0, 0, 0, 0), (.i2l, 1, 0, 0, 0, 0), (.lconst 1, 1, 0, 0, 0, 1), (.ldc2_w 186, 3, 0, 0, 0, 99999), (.invokestatic 79, 3, 130, 3, 0, 0), (.ifCond .ne 9, 3, 30, 0, 0, 0)]
def zb_188_24 : List zN := [(.aload_n 0, 1, 0, 0, 0, 0), (.iconst (-1), 1, 0, 0, (-1), 0), (.invokevirtual 68, 3, 126, 1, 0, 0), (.ireturn, 1, 0, 0, 0, 0)]
def zb_188_30 : List zN := [(.aload_n 0, 1, 0, 0, 0, 0), (.iload_n 1, 1, 0, 0, 0, 0), (.invokevirtual 180, 3, 158, 1, 0, 0), (.ifCond .ne 10, 3, 45, 0, 0, 0), (.aload_n 0, 1, 0, 0, 0, 0), (.bipush (-2), 2, 0, 0, (-2), 0), (.invokevirtual 68, 3, 126, 1, 0, 0), (.ireturn, 1, 0, 0, 0, 0)]
def zb_188_45 : List zN := [(.iconst 0, 1, 0, 0, 0, 0), (.istore 4, 2, 0, 0, 0, 0), (.aload_n 0, 1, 0, 0, 0, 0), (.iload_n 1, 1, 0, 0, 0, 0), (.iload_n 2, 1, 0, 0, 0, 0), (.iconst (-1), 1, 0, 0, (-1), 0), (.invokevirtual 237, 3, 189, 3, 0, 0), (.istore 5, 2, 0, 0, 0, 0)]
def zb_188_57 : List zN := [(.iload 5, 2, 0, 0, 0, 0), (.iconst (-1), 1, 0, 0, (-1), 0), (.if_icmp .eq 27, 3, 87, 0, 0, 0), (.iload 4, 2, 0, 0, 0, 0), (.aload_n 0, 1, 0, 0, 0, 0), (.iload 5, 2, 0, 0, 0, 0), (.invokevirtual 108, 3, 140, 1, 0, 0), (.iadd, 1, 0, 0, 0, 0), (.istore 4, 2, 0, 0, 0, 0), (.aload_n 0, 1, 0, 0, 0, 0), (.iload_n 1, 1, 0, 0, 0, 0), (.iload_n 2, 1, 0, 0, 0, 0), (.iload 5, 2, 0, 0, 0, 0), (.invokevirtual 237, 3, 189, 3, 0, 0), (.istore 5, 2, 0, 0, 0, 0), (.goto (-27), 3, 57, 0, 0, 0)]
def zb_188_87 : List zN := [(.iload 4, 2, 0, 0, 0, 0), (.iload_n 3, 1, 0, 0, 0, 0), (.if_icmp .lt 21, 3, 111, 0, 0, 0), (.aload_n 0, 1, 0, 0, 0, 0), (.getfield 13, 3, 6, 3, 0, 0), (.iload_n 1, 1, 0, 0, 0, 0), (.invokestatic 115, 3, 147, 1, 0, 0), (.iload_n 2, 1, 0, 0, 0, 0), (.iadd, 1, 0, 0, 0, 0), (.iaload, 1, 0, 0, 0, 0), (.iload_n 3, 1, 0, 0, 0, 0), (.iadd, 1, 0, 0, 0, 0), (.ldc 188, 2, 0, 0, 99999, 0), (.if_icmp .le 10, 3, 118, 0, 0, 0)]
def zb_188_111 : List zN := [(.aload_n 0, 1, 0, 0, 0, 0), (.bipush (-4), 2, 0, 0, (-4), 0), (.invokevirtual 68, 3, 126, 1, 0, 0), (.ireturn, 1, 0, 0, 0, 0)]
def zb_188_118 : List zN := [(.aload_n 0, 1, 0, 0, 0, 0), (.bipush 12, 2, 0, 0, 12, 0), (.invokevirtual 72, 3, 134, 1, 0, 0), (.iload_n 3, 1, 0, 0, 0, 0), (.istore 5, 2, 0, 0, 0, 0), (.iconst 0, 1, 0, 0, 0, 0), (.istore 6, 2, 0, 0, 0, 0), (.aload_n 0, 1, 0, 0, 0, 0), (.iload_n 1, 1, 0, 0, 0, 0), (.iload_n 2, 1, 0, 0, 0, 0), (.iconst (-1), 1, 0, 0, (-1), 0), (.invokevirtual 237, 3, 189, 3, 0, 0), (.istore 7, 2, 0, 0, 0, 0)]
def zb_188_139 : List zN := [(.iload 5, 2, 0, 0, 0, 0), (.ifCond .le 86, 3, 227, 0, 0, 0), (.aload_n 0, 1, 0, 0, 0, 0), (.iload_n 1, 1, 0, 0, 0, 0), (.iload_n 2, 1, 0, 0, 0, 0), (.iload 7, 2, 0, 0, 0, 0), (.invokevirtual 237, 3, 189, 3, 0, 0), (.istore 8, 2, 0, 0, 0, 0), (.iload 5, 2, 0, 0, 0, 0), (.aload_n 0, 1, 0, 0, 0, 0), (.iload 7, 2, 0, 0, 0, 0), (.invokevirtual 108, 3, 140, 1, 0, 0), (.invokestatic 124, 3, 149, 2, 0, 0), (.istore 9, 2, 0, 0, 0, 0), (.aload_n 0, 1, 0, 0, 0, 0), (.iload 7, 2, 0, 0, 0, 0), (.iload 9, 2, 0, 0, 0, 0), (.invokevirtual 228, 3, 181, 2, 0, 0), (.aload_n 0, 1, 0, 0, 0, 0), (.iload 7, 2, 0, 0, 0, 0), (.invokevirtual 108, 3, 140, 1, 0, 0), (.ifCond .ne 29, 3, 210, 0, 0, 0), (.aload_n 0, 1, 0, 0, 0, 0), (.iload 7, 2, 0, 0, 0, 0), (.aload_n 0, 1, 0, 0, 0, 0), (.iload 7, 2, 0, 0, 0, 0), (.invokevirtual 231, 3, 182, 1, 0, 0), (.aload_n 0, 1, 0, 0, 0, 0), (.getfield 13, 3, 6, 3, 0, 0), (.iload 7, 2, 0, 0, 0, 0), (.invokestatic 85, 3, 138, 1, 0, 0), (.bipush 7, 2, 0, 0, 7, 0), (.iadd, 1, 0, 0, 0, 0), (.iaload, 1, 0, 0, 0, 0), (.iconst 2, 1, 0, 0, 2, 0), (.invokevirtual 234, 3, 183, 4, 0, 0)]
def zb_188_210 : List zN := [(.iload 5, 2, 0, 0, 0, 0), (.iload 9, 2, 0, 0, 0, 0), (.isub, 1, 0, 0, 0, 0), (.istore 5, 2, 0, 0, 0, 0), (.iinc 6 1, 3, 0, 0, 1, 0), (.iload 8, 2, 0, 0, 0, 0), (.istore 7, 2, 0, 0, 0, 0), (.goto (-85), 3, 139, 0, 0, 0)]
def zb_188_227 : List zN := [(.aload_n 0, 1, 0, 0, 0, 0), (.iload 6, 2, 0, 0, 0, 0), (.invokevirtual 161, 3, 136, 1, 0, 0), (.ireturn, 1, 0, 0, 0, 0)]
def zc_188 (pc : Nat) : List zN := if pc = 0 then zb_188_0 else if pc = 24 then zb_188_24 else if pc = 30 then zb_188_30 else if pc = 45 then zb_188_45 else if pc = 57 then zb_188_57 else if pc = 87 then zb_188_87 else if pc = 111 then zb_188_111 else if pc = 118 then zb_188_118 else if pc = 139 then zb_188_139 else if pc = 210 then zb_188_210 else if pc = 227 then zb_188_227 else []
def zb_189_0 : List zN := [(.iconst (-1), 1, 0, 0, (-1), 0), (.istore 4, 2, 0, 0, 0, 0), (.iconst 0, 1, 0, 0, 0, 0), (.istore 5, 2, 0, 0, 0, 0)]
def zb_189_6 : List zN := [(.iload 5, 2, 0, 0, 0, 0), (.aload_n 0, 1, 0, 0, 0, 0), (.getfield 13, 3, 6, 3, 0, 0), (.iconst 3, 1, 0, 0, 3, 0), (.iaload, 1, 0, 0, 0, 0), (.if_icmp .ge 143, 3, 157, 0, 0, 0), (.aload_n 0, 1, 0, 0, 0, 0), (.iload 5, 2, 0, 0, 0, 0), (.invokevirtual 222, 3, 177, 1, 0, 0), (.ifCond .eq 44, 3, 67, 0, 0, 0), (.iload_n 1, 1, 0, 0, 0, 0), (.iconst (-1), 1, 0, 0, (-1), 0), (.if_icmp .eq 35, 3, 63, 0, 0, 0), (.aload_n 0, 1, 0, 0, 0, 0), (.getfield 13, 3, 6, 3, 0, 0), (.iload 5, 2, 0, 0, 0, 0), (.invokestatic 85, 3, 138, 1, 0, 0), (.iconst 1, 1, 0, 0, 1, 0), (.iadd, 1, 0, 0, 0, 0), (.iaload, 1, 0, 0, 0, 0), (.iload_n 1, 1, 0, 0, 0, 0), (.if_icmp .ne 23, 3, 67, 0, 0, 0), (.aload_n 0, 1, 0, 0, 0, 0), (.getfield 13, 3, 6, 3, 0, 0), (.iload 5, 2, 0, 0, 0, 0), (.invokestatic 85, 3, 138, 1, 0, 0), (.iconst 2, 1, 0, 0, 2, 0), (.iadd, 1, 0, 0, 0, 0), (.iaload, 1, 0, 0, 0, 0), (.iload_n 2, 1, 0, 0, 0, 0), (.if_icmp .ne 7, 3, 67, 0, 0, 0)]
def zb_189_63 : List zN := [(.iconst 1, 1, 0, 0, 1, 0), (.goto 4, 3, 68, 0, 0, 0)]
def zb_189_67 : List zN := [(.iconst 0, 1, 0, 0, 0, 0)]
def zb_189_68 : List zN := [(.istore 6, 2, 0, 0, 0, 0), (.iload_n 3, 1, 0, 0, 0, 0), (.iconst (-1), 1, 0, 0, (-1), 0), (.if_icmp .eq 37, 3, 109, 0, 0, 0), (.aload_n 0, 1, 0, 0, 0, 0), (.iload 5, 2, 0, 0, 0, 0), (.invokevirtual 219, 3, 180, 1, 0, 0), (.aload_n 0, 1, 0, 0, 0, 0), (.iload_n 3, 1, 0, 0, 0, 0), (.invokevirtual 219, 3, 180, 1, 0, 0), (.if_icmp .gt 23, 3, 109, 0, 0, 0), (.aload_n 0, 1, 0, 0, 0, 0), (.iload 5, 2, 0, 0, 0, 0), (.invokevirtual 219, 3, 180, 1, 0, 0), (.aload_n 0, 1, 0, 0, 0, 0), (.iload_n 3, 1, 0, 0, 0, 0), (.invokevirtual 219, 3, 180, 1, 0, 0), (.if_icmp .ne 13, 3, 113, 0, 0, 0), (.iload 5, 2, 0, 0, 0, 0), (.iload_n 3, 1, 0, 0, 0, 0), (.if_icmp .le 7, 3, 113, 0, 0, 0)]
def zb_189_109 : List zN := [(.iconst 1, 1, 0, 0, 1, 0), (.goto 4, 3, 114, 0, 0, 0)]
def zb_189_113 : List zN := [(.iconst 0, 1, 0, 0, 0, 0)]
def zb_189_114 : List zN := [(.istore 7, 2, 0, 0, 0, 0), (.iload 6, 2, 0, 0, 0, 0), (.ifCond .eq 33, 3, 151, 0, 0, 0), (.iload 7, 2, 0, 0, 0, 0), (.ifCond .eq 28, 3, 151, 0, 0, 0), (.iload 4, 2, 0, 0, 0, 0), (.iconst (-1), 1, 0, 0, (-1), 0), (.if_icmp .eq 18, 3, 147, 0, 0, 0), (.aload_n 0, 1, 0, 0, 0, 0), (.iload 5, 2, 0, 0, 0, 0), (.invokevirtual 219, 3, 180, 1, 0, 0), (.aload_n 0, 1, 0, 0, 0, 0), (.iload 4, 2, 0, 0, 0, 0), (.invokevirtual 219, 3, 180, 1, 0, 0), (.if_icmp .ge 7, 3, 151, 0, 0, 0)]
def zb_189_147 : List zN := [(.iload 5, 2, 0, 0, 0, 0), (.istore 4, 2, 0, 0, 0, 0)]
def zb_189_151 : List zN := [(.iinc 5 1, 3, 0, 0, 1, 0), (.goto (-148), 3, 6, 0, 0, 0)]
def zb_189_157 : List zN := [(.iload 4, 2, 0, 0, 0, 0), (.ireturn, 1, 0, 0, 0, 0)]
def zc_189 (pc : Nat) : List zN := if pc = 0 then zb_189_0 else if pc = 6 then zb_189_6 else if pc = 63 then zb_189_63 else if pc = 67 then zb_189_67 else if pc = 68 then zb_189_68 else if pc = 109 then zb_189_109 else if pc = 113 then zb_189_113 else if pc = 114 then zb_189_114 else if pc = 147 then zb_189_147 else if pc = 151 then zb_189_151 else if pc = 157 then zb_189_157 else []
def zb_190_0 : List zN := [(.aload_n 0, 1, 0, 0, 0, 0), (.iconst 0, 1, 0, 0, 0, 0), (.putfield 51, 3, 6, 0, 0, 0), (.iload_n 2, 1, 0, 0, 0, 0), (.i2l, 1, 0, 0, 0, 0), (.lconst 1, 1, 0, 0, 0, 1), (.ldc2_w 196, 3, 0, 0, 0, 9999), (.invokestatic 79, 3, 130, 3, 0, 0), (.ifCond .ne 9, 3, 23, 0, 0, 0), (.aload_n 0, 1, 0, 0, 0, 0), (.iconst (-1), 1, 0, 0, (-1), 0), (.invokevirtual 68, 3, 126, 1, 0, 0), (.ireturn, 1, 0, 0, 0, 0)]
def zb_190_23 : List zN := [(.aload_n 0, 1, 0, 0, 0, 0), (.iload_n 1, 1, 0, 0, 0, 0), (.invokevirtual 88, 3, 174, 1, 0, 0), (.ifCond .eq 11, 3, 39, 0, 0, 0), (.aload_n 0, 1, 0, 0, 0, 0), (.iload_n 3, 1, 0, 0, 0, 0), (.invokevirtual 180, 3, 158, 1, 0, 0), (.ifCond .ne 10, 3, 46, 0, 0, 0)]
def zb_190_39 : List zN := [(.aload_n 0, 1, 0, 0, 0, 0), (.bipush (-2), 2, 0, 0, (-2), 0), (.invokevirtual 68, 3, 126, 1, 0, 0), (.ireturn, 1, 0, 0, 0, 0)]
def zb_190_46 : List zN := [(.iload_n 1, 1, 0, 0, 0, 0), (.invokestatic 85, 3, 138, 1, 0, 0), (.istore 4, 2, 0, 0, 0, 0), (.aload_n 0, 1, 0, 0, 0, 0), (.iload_n 1, 1, 0, 0, 0, 0), (.invokevirtual 222, 3, 177, 1, 0, 0), (.ifCond .eq 53, 3, 110, 0, 0, 0), (.aload_n 0, 1, 0, 0, 0, 0), (.getfield 13, 3, 6, 3, 0, 0), (.iload 4, 2, 0, 0, 0, 0), (.bipush 8, 2, 0, 0, 8, 0), (.iadd, 1, 0, 0, 0, 0), (.iaload, 1, 0, 0, 0, 0), (.ifCond .gt 40, 3, 110, 0, 0, 0), (.iload_n 2, 1, 0, 0, 0, 0), (.aload_n 0, 1, 0, 0, 0, 0), (.getfield 13, 3, 6, 3, 0, 0), (.iload 4, 2, 0, 0, 0, 0), (.iconst 3, 1, 0, 0, 3, 0), (.iadd, 1, 0, 0, 0, 0), (.iaload, 1, 0, 0, 0, 0), (.if_icmp .ge 27, 3, 110, 0, 0, 0), (.iload_n 3, 1, 0, 0, 0, 0), (.aload_n 0, 1, 0, 0, 0, 0), (.getfield 13, 3, 6, 3, 0, 0), (.iload 4, 2, 0, 0, 0, 0), (.iaload, 1, 0, 0, 0, 0), (.if_icmp .eq 16, 3, 110, 0, 0, 0), (.iload_n 3, 1, 0, 0, 0, 0), (.aload_n 0, 1, 0, 0, 0, 0), (.getfield 13, 3, 6, 3, 0, 0), (.iload 4, 2, 0, 0, 0, 0), (.iconst 1, 1, 0, 0, 1, 0), (.iadd, 1, 0, 0, 0, 0), (.iaload, 1, 0, 0, 0, 0), (.if_icmp .ne 10, 3, 117, 0, 0, 0)]
def zb_190_110 : List zN := [(.aload_n 0, 1, 0, 0, 0, 0), (.bipush (-4), 2, 0, 0, (-4), 0), (.invokevirtual 68, 3, 126, 1, 0, 0), (.ireturn, 1, 0, 0, 0, 0)]
def zb_190_117 : List zN := [(.aload_n 0, 1, 0, 0, 0, 0), (.getfield 13, 3, 6, 3, 0, 0), (.iconst 3, 1, 0, 0, 3, 0), (.iaload, 1, 0, 0, 0, 0), (.istore 5, 2, 0, 0, 0, 0), (.iload 5, 2, 0, 0, 0, 0), (.bipush 40, 2, 0, 0, 40, 0), (.if_icmp .ne 10, 3, 139, 0, 0, 0), (.aload_n 0, 1, 0, 0, 0, 0), (.bipush (-5), 2, 0, 0, (-5), 0), (.invokevirtual 68, 3, 126, 1, 0, 0), (.ireturn, 1, 0, 0, 0, 0)]
def zb_190_139 : List zN := [(.aload_n 0, 1, 0, 0, 0, 0), (.bipush 13, 2, 0, 0, 13, 0), (.invokevirtual 72, 3, 134, 1, 0, 0), (.iload 5, 2, 0, 0, 0, 0), (.invokestatic 85, 3, 138, 1, 0, 0), (.istore 6, 2, 0, 0, 0, 0), (.iconst 0, 1, 0, 0, 0, 0), (.istore 7, 2, 0, 0, 0, 0)]
def zb_190_155 : List zN := [(.iload 7, 2, 0, 0, 0, 0), (.bipush 17, 2, 0, 0, 17, 0), (.if_icmp .ge 40, 3, 199, 0, 0, 0), (.aload_n 0, 1, 0, 0, 0, 0), (.getfield 13, 3, 6, 3, 0, 0), (.iload 6, 2, 0, 0, 0, 0), (.iload 7, 2, 0, 0, 0, 0), (.iadd, 1, 0, 0, 0, 0), (.iload 7, 2, 0, 0, 0, 0), (.bipush 8, 2, 0, 0, 8, 0), (.if_icmp .ge 16, 3, 191, 0, 0, 0), (.aload_n 0, 1, 0, 0, 0, 0), (.getfield 13, 3, 6, 3, 0, 0), (.iload 4, 2, 0, 0, 0, 0), (.iload 7, 2, 0, 0, 0, 0), (.iadd, 1, 0, 0, 0, 0), (.iaload, 1, 0, 0, 0, 0), (.goto 4, 3, 192, 0, 0, 0)]
def zb_190_191 : List zN := [(.iconst 0, 1, 0, 0, 0, 0)]
def zb_190_192 : List zN := [(.iastore, 1, 0, 0, 0, 0), (.iinc 7 1, 3, 0, 0, 1, 0), (.goto (-41), 3, 155, 0, 0, 0)]
def zb_190_199 : List zN := [(.aload_n 0, 1, 0, 0, 0, 0), (.getfield 13, 3, 6, 3, 0, 0), (.iload 6, 2, 0, 0, 0, 0), (.iconst 1, 1, 0, 0, 1, 0), (.iadd, 1, 0, 0, 0, 0), (.iload_n 3, 1, 0, 0, 0, 0), (.iastore, 1, 0, 0, 0, 0), (.aload_n 0, 1, 0, 0, 0, 0), (.getfield 13, 3, 6, 3, 0, 0), (.iload 6, 2, 0, 0, 0, 0), (.iconst 3, 1, 0, 0, 3, 0), (.iadd, 1, 0, 0, 0, 0), (.iload_n 2, 1, 0, 0, 0, 0), (.iastore, 1, 0, 0, 0, 0), (.aload_n 0, 1, 0, 0, 0, 0), (.getfield 13, 3, 6, 3, 0, 0), (.iload 6, 2, 0, 0, 0, 0), (.bipush 12, 2, 0, 0, 12, 0), (.iadd, 1, 0, 0, 0, 0), (.iload_n 1, 1, 0, 0, 0, 0), (.iastore, 1, 0, 0, 0, 0), (.aload_n 0, 1, 0, 0, 0, 0), (.getfield 13, 3, 6, 3, 0, 0), (.iconst 3, 1, 0, 0, 3, 0), (.dup2, 1, 0, 0, 0, 0), (.iaload, 1, 0, 0, 0, 0), (.iconst 1, 1, 0, 0, 1, 0), (.iadd, 1, 0, 0, 0, 0), (.iastore, 1, 0, 0, 0, 0), (.aload_n 0, 1, 0, 0, 0, 0), (.getfield 13, 3, 6, 3, 0, 0), (.iload 4, 2, 0, 0, 0, 0), (.iconst 3, 1, 0, 0, 3, 0), (.iadd, 1, 0, 0, 0, 0), (.dup2, 1, 0, 0, 0, 0), (.iaload, 1, 0, 0, 0, 0), (.iload_n 2, 1, 0, 0, 0, 0), (.isub, 1, 0, 0, 0, 0), (.iastore, 1, 0, 0, 0, 0), (.aload_n 0, 1, 0, 0, 0, 0), (.iload 5, 2, 0, 0, 0, 0), (.invokevirtual 134, 3, 139, 1, 0, 0), (.istore 7, 2, 0, 0, 0, 0), (.aload_n 0, 1, 0, 0, 0, 0), (.getfield 16, 3, 6, 4, 0, 0), (.bipush 8, 2, 0, 0, 8, 0), (.iconst 2, 1, 0, 0, 2, 0), (.iload 5, 2, 0, 0, 0, 0), (.imul, 1, 0, 0, 0, 0), (.iadd, 1, 0, 0, 0, 0), (.iload 7, 2, 0, 0, 0, 0), (.i2l, 1, 0, 0, 0, 0), (.lastore, 1, 0, 0, 0, 0), (.aload_n 0, 1, 0, 0, 0, 0), (.getfield 16, 3, 6, 4, 0, 0), (.bipush 9, 2, 0, 0, 9, 0), (.iconst 2, 1, 0, 0, 2, 0), (.iload 5, 2, 0, 0, 0, 0), (.imul, 1, 0, 0, 0, 0), (.iadd, 1, 0, 0, 0, 0), (.lconst 0, 1, 0, 0, 0, 0), (.lastore, 1, 0, 0, 0, 0), (.aload_n 0, 1, 0, 0, 0, 0), (.iload_n 1, 1, 0, 0, 0, 0), (.iload 7, 2, 0, 0, 0, 0), (.iload 5, 2, 0, 0, 0, 0), (.invokevirtual 140, 3, 167, 3, 0, 0), (.aload_n 0, 1, 0, 0, 0, 0), (.iload 5, 2, 0, 0, 0, 0), (.invokevirtual 161, 3, 136, 1, 0, 0), (.ireturn, 1, 0, 0, 0, 0)]
def zc_190 (pc : Nat) : List zN := if pc = 0 then zb_190_0 else if pc = 23 then zb_190_23 else if pc = 39 then zb_190_39 else if pc = 46 then zb_190_46 else if pc = 110 then zb_190_110 else if pc = 117 then zb_190_117 else if pc = 139 then zb_190_139 else if pc = 155 then zb_190_155 else if pc = 191 then zb_190_191 else if pc = 192 then zb_190_192 else if pc = 199 then zb_190_199 else []
def zb_191_0 : List zN := [(.aload_n 0, 1, 0, 0, 0, 0), (.iconst 0, 1, 0, 0, 0, 0), (.putfield 51, 3, 6, 0, 0, 0), (.iload_n 2, 1, 0, 0, 0, 0), (.invokestatic 183, 3, 160, 1, 0, 0), (.ifCond .eq 15, 3, 24, 0, 0, 0), (.iload_n 3, 1, 0, 0, 0, 0), (.i2l, 1, 0, 0, 0, 0), (.lconst 1, 1, 0, 0, 0, 1), (.ldc2_w 186, 3, 0, 0, 0, 99999), (.invokestatic 79, 3, 130, 3, 0, 0), (.ifCond .ne 9, 3, 30, 0, 0, 0)]
def zb_191_24 : List zN := [(.aload_n 0, 1, 0, 0, 0, 0), (.iconst (-1), 1, 0, 0, (-1), 0), (.invokevirtual 68, 3, 126, 1, 0, 0), (.ireturn, 1, 0, 0, 0, 0)]
def zb_191_30 : List zN := [(.aload_n 0, 1, 0, 0, 0, 0), (.iload_n 1, 1, 0, 0, 0, 0), (.invokevirtual 180, 3, 158, 1, 0, 0), (.ifCond .ne 10, 3, 45, 0, 0, 0), (.aload_n 0, 1, 0, 0, 0, 0), (.bipush (-2), 2, 0, 0, (-2), 0), (.invokevirtual 68, 3, 126, 1, 0, 0), (.ireturn, 1, 0, 0, 0, 0)]
def zb_191_45 : List zN := [(.iload_n 3, 1, 0, 0, 0, 0), (.aload_n 0, 1, 0, 0, 0, 0), (.iload_n 2, 1, 0, 0, 0, 0), (.aload_n 0, 1, 0, 0, 0, 0), (.getfield 13, 3, 6, 3, 0, 0), (.iconst 0, 1, 0, 0, 0, 0), (.iaload, 1, 0, 0, 0, 0), (.invokevirtual 101, 3, 143, 2, 0, 0), (.imul, 1, 0, 0, 0, 0), (.istore 4, 2, 0, 0, 0, 0), (.aload_n 0, 1, 0, 0, 0, 0), (.getfield 13, 3, 6, 3, 0, 0), (.iload_n 1, 1, 0, 0, 0, 0), (.invokestatic 115, 3, 147, 1, 0, 0), (.iload_n 2, 1, 0, 0, 0, 0), (.iadd, 1, 0, 0, 0, 0), (.iaload, 1, 0, 0, 0, 0), (.iload_n 3, 1, 0, 0, 0, 0), (.if_icmp .lt 13, 3, 85, 0, 0, 0), (.aload_n 0, 1, 0, 0, 0, 0), (.iload_n 1, 1, 0, 0, 0, 0), (.invokevirtual 121, 3, 146, 1, 0, 0), (.iload 4, 2, 0, 0, 0, 0), (.if_icmp .ge 10, 3, 92, 0, 0, 0)]
def zb_191_85 : List zN := [(.aload_n 0, 1, 0, 0, 0, 0), (.bipush (-4), 2, 0, 0, (-4), 0), (.invokevirtual 68, 3, 126, 1, 0, 0), (.ireturn, 1, 0, 0, 0, 0)]
def zb_191_92 : List zN := [(.aload_n 0, 1, 0, 0, 0, 0), (.bipush 14, 2, 0, 0, 14, 0), (.invokevirtual 72, 3, 134, 1, 0, 0), (.aload_n 0, 1, 0, 0, 0, 0), (.getfield 13, 3, 6, 3, 0, 0), (.iload_n 1, 1, 0, 0, 0, 0), (.invokestatic 115, 3, 147, 1, 0, 0), (.iload_n 2, 1, 0, 0, 0, 0), (.iadd, 1, 0, 0, 0, 0), (.dup2, 1, 0, 0, 0, 0), (.iaload, 1, 0, 0, 0, 0), (.iload_n 3, 1, 0, 0, 0, 0), (.isub, 1, 0, 0, 0, 0), (.iastore, 1, 0, 0, 0, 0), (.iload 4, 2, 0, 0, 0, 0), (.istore 5, 2, 0, 0, 0, 0), (.iconst 0, 1, 0, 0, 0, 0), (.istore 6, 2, 0, 0, 0, 0)]
def zb_191_120 : List zN := [(.iload 6, 2, 0, 0, 0, 0), (.iconst 3, 1, 0, 0, 3, 0), (.if_icmp .ge 68, 3, 191, 0, 0, 0), (.aload_n 0, 1, 0, 0, 0, 0), (.getfield 13, 3, 6, 3, 0, 0), (.iload_n 1, 1, 0, 0, 0, 0), (.invokestatic 115, 3, 147, 1, 0, 0), (.iconst 5, 1, 0, 0, 5, 0), (.iadd, 1, 0, 0, 0, 0), (.iload 6, 2, 0, 0, 0, 0), (.iadd, 1, 0, 0, 0, 0), (.iaload, 1, 0, 0, 0, 0), (.istore 7, 2, 0, 0, 0, 0), (.iload 7, 2, 0, 0, 0, 0), (.iconst (-1), 1, 0, 0, (-1), 0), (.if_icmp .ne 7, 3, 152, 0, 0, 0), (.iconst 0, 1, 0, 0, 0, 0), (.goto 14, 3, 163, 0, 0, 0)]
def zb_191_152 : List zN := [(.iload 5, 2, 0, 0, 0, 0), (.aload_n 0, 1, 0, 0, 0, 0), (.iload 7, 2, 0, 0, 0, 0), (.invokevirtual 118, 3, 148, 1, 0, 0), (.invokestatic 124, 3, 149, 2, 0, 0)]
def zb_191_163 : List zN := [(.istore 8, 2, 0, 0, 0, 0), (.iload 8, 2, 0, 0, 0, 0), (.ifCond .le 18, 3, 185, 0, 0, 0), (.aload_n 0, 1, 0, 0, 0, 0), (.iload 7, 2, 0, 0, 0, 0), (.iload 8, 2, 0, 0, 0, 0), (.invokevirtual 130, 3, 187, 2, 0, 0), (.iload 5, 2, 0, 0, 0, 0), (.iload 8, 2, 0, 0, 0, 0), (.isub, 1, 0, 0, 0, 0), (.istore 5, 2, 0, 0, 0, 0)]
def zb_191_185 : List zN := [(.iinc 6 1, 3, 0, 0, 1, 0), (.goto (-68), 3, 120, 0, 0, 0)]
def zb_191_191 : List zN := [(.aload_n 0, 1, 0, 0, 0, 0), (.iload 4, 2, 0, 0, 0, 0), (.invokevirtual 161, 3, 136, 1, 0, 0), (.ireturn, 1, 0, 0, 0, 0)]
def zc_191 (pc : Nat) : List zN := if pc = 0 then zb_191_0 else if pc = 24 then zb_191_24 else if pc = 30 then zb_191_30 else if pc = 45 then zb_191_45 else if pc = 85 then zb_191_85 else if pc = 92 then zb_191_92 else if pc = 120 then zb_191_120 else if pc = 152 then zb_191_152 else if pc = 163 then zb_191_163 else if pc = 185 then zb_191_185 else if pc = 191 then zb_191_191 else []
def zb_192_0 : List zN := [(.aload_n 0, 1, 0, 0, 0, 0), (.iconst 0, 1, 0, 0, 0, 0), (.putfield 51, 3, 6, 0, 0, 0), (.aload_n 0, 1, 0, 0, 0, 0), (.iload_n 1, 1, 0, 0, 0, 0), (.invokevirtual 88, 3, 174, 1, 0, 0), (.ifCond .eq 19, 3, 29, 0, 0, 0), (.aload_n 0, 1, 0, 0, 0, 0), (.iload_n 2, 1, 0, 0, 0, 0), (.invokevirtual 166, 3, 151, 1, 0, 0), (.ifCond .eq 11, 3, 29, 0, 0, 0), (.aload_n 0, 1, 0, 0, 0, 0), (.iload_n 3, 1, 0, 0, 0, 0), (.invokevirtual 166, 3, 151, 1, 0, 0), (.ifCond .ne 10, 3, 36, 0, 0, 0)]
def zb_192_29 : List zN := [(.aload_n 0, 1, 0, 0, 0, 0), (.bipush (-2), 2, 0, 0, (-2), 0), (.invokevirtual 68, 3, 126, 1, 0, 0), (.ireturn, 1, 0, 0, 0, 0)]
def zb_192_36 : List zN := [(.iload_n 1, 1, 0, 0, 0, 0), (.invokestatic 85, 3, 138, 1, 0, 0), (.bipush 13, 2, 0, 0, 13, 0), (.iadd, 1, 0, 0, 0, 0), (.istore 4, 2, 0, 0, 0, 0), (.aload_n 0, 1, 0, 0, 0, 0), (.getfield 13, 3, 6, 3, 0, 0), (.iload 4, 2, 0, 0, 0, 0), (.iload_n 2, 1, 0, 0, 0, 0), (.iadd, 1, 0, 0, 0, 0), (.iaload, 1, 0, 0, 0, 0), (.istore 5, 2, 0, 0, 0, 0), (.iload_n 2, 1, 0, 0, 0, 0), (.iload_n 3, 1, 0, 0, 0, 0), (.if_icmp .eq 26, 3, 84, 0, 0, 0), (.aload_n 0, 1, 0, 0, 0, 0), (.iload_n 1, 1, 0, 0, 0, 0), (.invokevirtual 222, 3, 177, 1, 0, 0), (.ifCond .eq 18, 3, 84, 0, 0, 0), (.iload 5, 2, 0, 0, 0, 0), (.ifCond .eq 13, 3, 84, 0, 0, 0), (.aload_n 0, 1, 0, 0, 0, 0), (.iload_n 3, 1, 0, 0, 0, 0), (.invokevirtual 118, 3, 148, 1, 0, 0), (.iload 5, 2, 0, 0, 0, 0), (.if_icmp .ge 10, 3, 91, 0, 0, 0)]
def zb_192_84 : List zN := [(.aload_n 0, 1, 0, 0, 0, 0), (.bipush (-4), 2, 0, 0, (-4), 0), (.invokevirtual 68, 3, 126, 1, 0, 0), (.ireturn, 1, 0, 0, 0, 0)]
def zb_192_91 : List zN := [(.aload_n 0, 1, 0, 0, 0, 0), (.bipush 16, 2, 0, 0, 16, 0), (.invokevirtual 72, 3, 134, 1, 0, 0), (.aload_n 0, 1, 0, 0, 0, 0), (.getfield 13, 3, 6, 3, 0, 0), (.iload 4, 2, 0, 0, 0, 0), (.iload_n 2, 1, 0, 0, 0, 0), (.iadd, 1, 0, 0, 0, 0), (.iconst 0, 1, 0, 0, 0, 0), (.iastore, 1, 0, 0, 0, 0), (.aload_n 0, 1, 0, 0, 0, 0), (.getfield 13, 3, 6, 3, 0, 0), (.iload 4, 2, 0, 0, 0, 0), (.iload_n 3, 1, 0, 0, 0, 0), (.iadd, 1, 0, 0, 0, 0), (.dup2, 1, 0, 0, 0, 0), (.iaload, 1, 0, 0, 0, 0), (.iload 5, 2, 0, 0, 0, 0), (.iadd, 1, 0, 0, 0, 0), (.iastore, 1, 0, 0, 0, 0), (.aload_n 0, 1, 0, 0, 0, 0), (.getfield 13, 3, 6, 3, 0, 0), (.iload_n 2, 1, 0, 0, 0, 0), (.invokestatic 95, 3, 135, 1, 0, 0), (.iconst 1, 1, 0, 0, 1, 0), (.iadd, 1, 0, 0, 0, 0), (.dup2, 1, 0, 0, 0, 0), (.iaload, 1, 0, 0, 0, 0), (.iload 5, 2, 0, 0, 0, 0), (.isub, 1, 0, 0, 0, 0), (.iastore, 1, 0, 0, 0, 0), (.aload_n 0, 1, 0, 0, 0, 0), (.getfield 13, 3, 6, 3, 0, 0), (.iload_n 3, 1, 0, 0, 0, 0), (.invokestatic 95, 3, 135, 1, 0, 0), (.iconst 1, 1, 0, 0, 1, 0), (.iadd, 1, 0, 0, 0, 0), (.dup2, 1, 0, 0, 0, 0), (.iaload, 1, 0, 0, 0, 0), (.iload 5, 2, 0, 0, 0, 0), (.iadd, 1, 0, 0, 0, 0), (.iastore, 1, 0, 0, 0, 0), (.aload_n 0, 1, 0, 0, 0, 0), (.iload 5, 2, 0, 0, 0, 0), (.invokevirtual 161, 3, 136, 1, 0, 0), (.ireturn, 1, 0, 0, 0, 0)]
def zc_192 (pc : Nat) : List zN := if pc = 0 then zb_192_0 else if pc = 29 then zb_192_29 else if pc = 36 then zb_192_36 else if pc = 84 then zb_192_84 else if pc = 91 then zb_192_91 else []
def zb_193_0 : List zN := [(.aload_n 0, 1, 0, 0, 0, 0), (.iconst 0, 1, 0, 0, 0, 0), (.putfield 51, 3, 6, 0, 0, 0), (.iload_n 2, 1, 0, 0, 0, 0), (.i2l, 1, 0, 0, 0, 0), (.lconst 1, 1, 0, 0, 0, 1), (.ldc2_w 209, 3, 0, 0, 0, 90), (.invokestatic 79, 3, 130, 3, 0, 0), (.ifCond .ne 9, 3, 23, 0, 0, 0), (.aload_n 0, 1, 0, 0, 0, 0), (.iconst (-1), 1, 0, 0, (-1), 0), (.invokevirtual 68, 3, 126, 1, 0, 0), (.ireturn, 1, 0, 0, 0, 0)]
def zb_193_23 : List zN := [(.aload_n 0, 1, 0, 0, 0, 0), (.iload_n 1, 1, 0, 0, 0, 0), (.invokevirtual 88, 3, 174, 1, 0, 0), (.ifCond .ne 10, 3, 38, 0, 0, 0), (.aload_n 0, 1, 0, 0, 0, 0), (.bipush (-2), 2, 0, 0, (-2), 0), (.invokevirtual 68, 3, 126, 1, 0, 0), (.ireturn, 1, 0, 0, 0, 0)]
def zb_193_38 : List zN := [(.iload_n 1, 1, 0, 0, 0, 0), (.invokestatic 85, 3, 138, 1, 0, 0), (.istore_n 3, 1, 0, 0, 0, 0), (.aload_n 0, 1, 0, 0, 0, 0), (.iload_n 1, 1, 0, 0, 0, 0), (.invokevirtual 222, 3, 177, 1, 0, 0), (.ifCond .eq 40, 3, 88, 0, 0, 0), (.aload_n 0, 1, 0, 0, 0, 0), (.getfield 13, 3, 6, 3, 0, 0), (.iload_n 3, 1, 0, 0, 0, 0), (.iconst 4, 1, 0, 0, 4, 0), (.iadd, 1, 0, 0, 0, 0), (.iaload, 1, 0, 0, 0, 0), (.iload_n 2, 1, 0, 0, 0, 0), (.iadd, 1, 0, 0, 0, 0), (.sipush 180, 3, 0, 0, 180, 0), (.if_icmp .gt 24, 3, 88, 0, 0, 0), (.aload_n 0, 1, 0, 0, 0, 0), (.iload_n 1, 1, 0, 0, 0, 0), (.invokevirtual 219, 3, 180, 1, 0, 0), (.aload_n 0, 1, 0, 0, 0, 0), (.getfield 13, 3, 6, 3, 0, 0), (.iconst 4, 1, 0, 0, 4, 0), (.iaload, 1, 0, 0, 0, 0), (.iadd, 1, 0, 0, 0, 0), (.aload_n 0, 1, 0, 0, 0, 0), (.getfield 13, 3, 6, 3, 0, 0), (.iconst 0, 1, 0, 0, 0, 0), (.iaload, 1, 0, 0, 0, 0), (.if_icmp .ge 10, 3, 95, 0, 0, 0)]
def zb_193_88 : List zN := [(.aload_n 0, 1, 0, 0, 0, 0), (.bipush (-4), 2, 0, 0, (-4), 0), (.invokevirtual 68, 3, 126, 1, 0, 0), (.ireturn, 1, 0, 0, 0, 0)]
def zb_193_95 : List zN := [(.aload_n 0, 1, 0, 0, 0, 0), (.aload_n 0, 1, 0, 0, 0, 0), (.getfield 39, 3, 6, 12, 0, 0), (.aload_n 0, 1, 0, 0, 0, 0), (.getfield 42, 3, 6, 13, 0, 0), (.iconst 0, 1, 0, 0, 0, 0), (.invokevirtual 61, 3, 131, 3, 0, 0), (.aload_n 0, 1, 0, 0, 0, 0), (.getfield 13, 3, 6, 3, 0, 0), (.iload_n 3, 1, 0, 0, 0, 0), (.iconst 4, 1, 0, 0, 4, 0), (.iadd, 1, 0, 0, 0, 0), (.dup2, 1, 0, 0, 0, 0), (.iaload, 1, 0, 0, 0, 0), (.iload_n 2, 1, 0, 0, 0, 0), (.iadd, 1, 0, 0, 0, 0), (.iastore, 1, 0, 0, 0, 0), (.aload_n 0, 1, 0, 0, 0, 0), (.iload_n 1, 1, 0, 0, 0, 0), (.invokevirtual 193, 3, 165, 1, 0, 0), (.ifCond .ne 10, 3, 135, 0, 0, 0), (.aload_n 0, 1, 0, 0, 0, 0), (.bipush (-4), 2, 0, 0, (-4), 0), (.invokevirtual 201, 3, 169, 1, 0, 0), (.ireturn, 1, 0, 0, 0, 0)]
def zb_193_135 : List zN := [(.aload_n 0, 1, 0, 0, 0, 0), (.bipush 17, 2, 0, 0, 17, 0), (.invokevirtual 204, 3, 170, 1, 0, 0), (.aload_n 0, 1, 0, 0, 0, 0), (.iload_n 1, 1, 0, 0, 0, 0), (.invokevirtual 219, 3, 180, 1, 0, 0), (.istore 4, 2, 0, 0, 0, 0), (.aload_n 0, 1, 0, 0, 0, 0), (.iload 4, 2, 0, 0, 0, 0), (.invokevirtual 161, 3, 136, 1, 0, 0), (.ireturn, 1, 0, 0, 0, 0)]
def zc_193 (pc : Nat) : List zN := if pc = 0 then zb_193_0 else if pc = 23 then zb_193_23 else if pc = 38 then zb_193_38 else if pc = 88 then zb_193_88 else if pc = 95 then zb_193_95 else if pc = 135 then zb_193_135 else []
def zb_194_0 : List zN := [(.aload_n 0, 1, 0, 0, 0, 0), (.iconst 0, 1, 0, 0, 0, 0), (.putfield 51, 3, 6, 0, 0, 0), (.aload_n 0, 1, 0, 0, 0, 0), (.iload_n 1, 1, 0, 0, 0, 0), (.invokevirtual 88, 3, 174, 1, 0, 0), (.ifCond .eq 11, 3, 21, 0, 0, 0), (.aload_n 0, 1, 0, 0, 0, 0), (.iload_n 2, 1, 0, 0, 0, 0), (.invokevirtual 180, 3, 158, 1, 0, 0), (.ifCond .ne 10, 3, 28, 0, 0, 0)]
def zb_194_21 : List zN := [(.aload_n 0, 1, 0, 0, 0, 0), (.bipush (-2), 2, 0, 0, (-2), 0), (.invokevirtual 68, 3, 126, 1, 0, 0), (.ireturn, 1, 0, 0, 0, 0)]
def zb_194_28 : List zN := [(.iload_n 1, 1, 0, 0, 0, 0), (.invokestatic 85, 3, 138, 1, 0, 0), (.istore_n 3, 1, 0, 0, 0, 0), (.aload_n 0, 1, 0, 0, 0, 0), (.iload_n 1, 1, 0, 0, 0, 0), (.invokevirtual 222, 3, 177, 1, 0, 0), (.ifCond .eq 25, 3, 63, 0, 0, 0), (.iload_n 2, 1, 0, 0, 0, 0), (.aload_n 0, 1, 0, 0, 0, 0), (.getfield 13, 3, 6, 3, 0, 0), (.iload_n 3, 1, 0, 0, 0, 0), (.iaload, 1, 0, 0, 0, 0), (.if_icmp .eq 15, 3, 63, 0, 0, 0), (.iload_n 2, 1, 0, 0, 0, 0), (.aload_n 0, 1, 0, 0, 0, 0), (.getfield 13, 3, 6, 3, 0, 0), (.iload_n 3, 1, 0, 0, 0, 0), (.iconst 1, 1, 0, 0, 1, 0), (.iadd, 1, 0, 0, 0, 0), (.iaload, 1, 0, 0, 0, 0), (.if_icmp .ne 10, 3, 70, 0, 0, 0)]
def zb_194_63 : List zN := [(.aload_n 0, 1, 0, 0, 0, 0), (.bipush (-4), 2, 0, 0, (-4), 0), (.invokevirtual 68, 3, 126, 1, 0, 0), (.ireturn, 1, 0, 0, 0, 0)]
def zb_194_70 : List zN := [(.aload_n 0, 1, 0, 0, 0, 0), (.iload_n 3, 1, 0, 0, 0, 0), (.iconst 1, 1, 0, 0, 1, 0), (.iadd, 1, 0, 0, 0, 0), (.iload_n 2, 1, 0, 0, 0, 0), (.bipush 18, 2, 0, 0, 18, 0), (.invokevirtual 169, 3, 152, 3, 0, 0), (.ireturn, 1, 0, 0, 0, 0)]
def zc_194 (pc : Nat) : List zN := if pc = 0 then zb_194_0 else if pc = 21 then zb_194_21 else if pc = 28 then zb_194_28 else if pc = 63 then zb_194_63 else if pc = 70 then zb_194_70 else []
def zb_195_0 : List zN := [(.aload_n 0, 1, 0, 0, 0, 0), (.iconst 0, 1, 0, 0, 0, 0), (.putfield 51, 3, 6, 0, 0, 0), (.iload_n 1, 1, 0, 0, 0, 0), (.i2l, 1, 0, 0, 0, 0), (.lconst 1, 1, 0, 0, 0, 1), (.ldc2_w 209, 3, 0, 0, 0, 90), (.invokestatic 79, 3, 130, 3, 0, 0), (.ifCond .ne 9, 3, 23, 0, 0, 0), (.aload_n 0, 1, 0, 0, 0, 0), (.iconst (-1), 1, 0, 0, (-1), 0), (.invokevirtual 68, 3, 126, 1, 0, 0), (.ireturn, 1, 0, 0, 0, 0)]
def zb_195_23 : List zN := [(.aload_n 0, 1, 0, 0, 0, 0), (.getfield 13, 3, 6, 3, 0, 0), (.iconst 0, 1, 0, 0, 0, 0), (.iaload, 1, 0, 0, 0, 0), (.iload_n 1, 1, 0, 0, 0, 0), (.iadd, 1, 0, 0, 0, 0), (.sipush 9999, 3, 0, 0, 9999, 0), (.if_icmp .le 10, 3, 44, 0, 0, 0), (.aload_n 0, 1, 0, 0, 0, 0), (.bipush (-4), 2, 0, 0, (-4), 0), (.invokevirtual 68, 3, 126, 1, 0, 0), (.ireturn, 1, 0, 0, 0, 0)]
def zb_195_44 : List zN := [(.aload_n 0, 1, 0, 0, 0, 0), (.bipush 15, 2, 0, 0, 15, 0), (.invokevirtual 72, 3, 134, 1, 0, 0), (.aload_n 0, 1, 0, 0, 0, 0), (.iload_n 1, 1, 0, 0, 0, 0), (.invokevirtual 246, 3, 196, 1, 0, 0), (.aload_n 0, 1, 0, 0, 0, 0), (.aload_n 0, 1, 0, 0, 0, 0), (.getfield 240, 3, 6, 15, 0, 0), (.invokevirtual 76, 3, 128, 1, 0, 0), (.ireturn, 1, 0, 0, 0, 0)]
def zc_195 (pc : Nat) : List zN := if pc = 0 then zb_195_0 else if pc = 23 then zb_195_23 else if pc = 44 then zb_195_44 else []
def zb_196_0 : List zN := [(.aload_n 0, 1, 0, 0, 0, 0), (.iconst 0, 1, 0, 0, 0, 0), (.putfield 240, 3, 6, 15, 0, 0), (.iconst 0, 1, 0, 0, 0, 0), (.istore_n 2, 1, 0, 0, 0, 0)]
def zb_196_7 : List zN := [(.iload_n 2, 1, 0, 0, 0, 0), (.iload_n 1, 1, 0, 0, 0, 0), (.if_icmp .ge 13, 3, 22, 0, 0, 0), (.aload_n 0, 1, 0, 0, 0, 0), (.invokevirtual 243, 3, 197, 0, 0, 0), (.iinc 2 1, 3, 0, 0, 1, 0), (.goto (-12), 3, 7, 0, 0, 0)]
def zb_196_22 : List zN := [(.return_, 1, 0, 0, 0, 0)]
def zc_196 (pc : Nat) : List zN := if pc = 0 then zb_196_0 else if pc = 7 then zb_196_7 else if pc = 22 then zb_196_22 else []
def zb_197_0 : List zN := [(.aload_n 0, 1, 0, 0, 0, 0), (.getfield 13, 3, 6, 3, 0, 0), (.iconst 0, 1, 0, 0, 0, 0), (.dup2, 1, 0, 0, 0, 0), (.iaload, 1, 0, 0, 0, 0), (.iconst 1, 1, 0, 0, 1, 0), (.iadd, 1, 0, 0, 0, 0), (.iastore, 1, 0, 0, 0, 0), (.iconst 0, 1, 0, 0, 0, 0), (.istore_n 1, 1, 0, 0, 0, 0)]
def zb_197_12 : List zN := [(.iload_n 1, 1, 0, 0, 0, 0), (.aload_n 0, 1, 0, 0, 0, 0), (.getfield 13, 3, 6, 3, 0, 0), (.iconst 3, 1, 0, 0, 3, 0), (.iaload, 1, 0, 0, 0, 0), (.if_icmp .ge 70, 3, 89, 0, 0, 0), (.aload_n 0, 1, 0, 0, 0, 0), (.iload_n 1, 1, 0, 0, 0, 0), (.invokevirtual 222, 3, 177, 1, 0, 0), (.ifCond .eq 56, 3, 83, 0, 0, 0), (.aload_n 0, 1, 0, 0, 0, 0), (.iload_n 1, 1, 0, 0, 0, 0), (.invokevirtual 219, 3, 180, 1, 0, 0), (.aload_n 0, 1, 0, 0, 0, 0), (.getfield 13, 3, 6, 3, 0, 0), (.iconst 4, 1, 0, 0, 4, 0), (.iaload, 1, 0, 0, 0, 0), (.iadd, 1, 0, 0, 0, 0), (.aload_n 0, 1, 0, 0, 0, 0), (.getfield 13, 3, 6, 3, 0, 0), (.iconst 0, 1, 0, 0, 0, 0), (.iaload, 1, 0, 0, 0, 0), (.if_icmp .ge 35, 3, 83, 0, 0, 0), (.aload_n 0, 1, 0, 0, 0, 0), (.iload_n 1, 1, 0, 0, 0, 0), (.aload_n 0, 1, 0, 0, 0, 0), (.getfield 13, 3, 6, 3, 0, 0), (.iload_n 1, 1, 0, 0, 0, 0), (.invokestatic 85, 3, 138, 1, 0, 0), (.iconst 4, 1, 0, 0, 4, 0), (.iadd, 1, 0, 0, 0, 0), (.iaload, 1, 0, 0, 0, 0), (.aload_n 0, 1, 0, 0, 0, 0), (.iload_n 1, 1, 0, 0, 0, 0), (.invokevirtual 219, 3, 180, 1, 0, 0), (.iconst 3, 1, 0, 0, 3, 0), (.invokevirtual 234, 3, 183, 4, 0, 0), (.aload_n 0, 1, 0, 0, 0, 0), (.dup, 1, 0, 0, 0, 0), (.getfield 240, 3, 6, 15, 0, 0), (.iconst 1, 1, 0, 0, 1, 0), (.iadd, 1, 0, 0, 0, 0), (.putfield 240, 3, 6, 15, 0, 0)]
def zb_197_83 : List zN := [(.iinc 1 1, 3, 0, 0, 1, 0), (.goto (-74), 3, 12, 0, 0, 0)]
def zb_197_89 : List zN := [(.aload_n 0, 1, 0, 0, 0, 0), (.invokevirtual 158, 3, 137, 0, 0, 0), (.return_, 1, 0, 0, 0, 0)]
def zc_197 (pc : Nat) : List zN := if pc = 0 then zb_197_0 else if pc = 12 then zb_197_12 else if pc = 83 then zb_197_83 else if pc = 89 then zb_197_89 else []
def zb_198_0 : List zN := [(.aload_n 0, 1, 0, 0, 0, 0), (.iconst 0, 1, 0, 0, 0, 0), (.putfield 51, 3, 6, 0, 0, 0), (.aload_n 0, 1, 0, 0, 0, 0), (.iload_n 1, 1, 0, 0, 0, 0), (.invokevirtual 166, 3, 151, 1, 0, 0), (.ifCond .ne 5, 3, 15, 0, 0, 0), (.iconst (-1), 1, 0, 0, (-1), 0), (.ireturn, 1, 0, 0, 0, 0)]
def zb_198_15 : List zN := [(.iload_n 2, 1, 0, 0, 0, 0), (.i2l, 1, 0, 0, 0, 0), (.lconst 0, 1, 0, 0, 0, 0), (.ldc2_w 249, 3, 0, 0, 0, 2), (.invokestatic 79, 3, 130, 3, 0, 0), (.ifCond .eq 17, 3, 41, 0, 0, 0), (.aload_n 0, 1, 0, 0, 0, 0), (.getfield 13, 3, 6, 3, 0, 0), (.iload_n 1, 1, 0, 0, 0, 0), (.invokestatic 95, 3, 135, 1, 0, 0), (.iload_n 2, 1, 0, 0, 0, 0), (.iadd, 1, 0, 0, 0, 0), (.iaload, 1, 0, 0, 0, 0), (.goto 17, 3, 55, 0, 0, 0)]
def zb_198_41 : List zN := [(.iload_n 2, 1, 0, 0, 0, 0), (.iconst 3, 1, 0, 0, 3, 0), (.if_icmp .ne 11, 3, 54, 0, 0, 0), (.aload_n 0, 1, 0, 0, 0, 0), (.iload_n 1, 1, 0, 0, 0, 0), (.invokevirtual 118, 3, 148, 1, 0, 0), (.goto 4, 3, 55, 0, 0, 0)]
def zb_198_54 : List zN := [(.iconst (-1), 1, 0, 0, (-1), 0)]
def zb_198_55 : List zN := [(.ireturn, 1, 0, 0, 0, 0)]
def zc_198 (pc : Nat) : List zN := if pc = 0 then zb_198_0 else if pc = 15 then zb_198_15 else if pc = 41 then zb_198_41 else if pc = 54 then zb_198_54 else if pc = 55 then zb_198_55 else []
def zb_199_0 : List zN := [(.aload_n 0, 1, 0, 0, 0, 0), (.iconst 0, 1, 0, 0, 0, 0), (.putfield 51, 3, 6, 0, 0, 0), (.iload_n 1, 1, 0, 0, 0, 0), (.iconst (-1), 1, 0, 0, (-1), 0), (.if_icmp .eq 11, 3, 18, 0, 0, 0), (.aload_n 0, 1, 0, 0, 0, 0), (.iload_n 1, 1, 0, 0, 0, 0), (.invokevirtual 166, 3, 151, 1, 0, 0), (.ifCond .eq 13, 3, 28, 0, 0, 0)]
def zb_199_18 : List zN := [(.iload_n 2, 1, 0, 0, 0, 0), (.i2l, 1, 0, 0, 0, 0), (.lconst 0, 1, 0, 0, 0, 0), (.lconst 1, 1, 0, 0, 0, 1), (.invokestatic 79, 3, 130, 3, 0, 0), (.ifCond .ne 7, 3, 32, 0, 0, 0)]
def zb_199_28 : List zN := [(.ldc2_w 251, 3, 0, 0, 0, (-1)), (.lreturn, 1, 0, 0, 0, 0)]
def zb_199_32 : List zN := [(.lconst 0, 1, 0, 0, 0, 0), (.lstore_n 3, 1, 0, 0, 0, 0), (.iconst 0, 1, 0, 0, 0, 0), (.istore 5, 2, 0, 0, 0, 0)]
def zb_199_37 : List zN := [(.iload 5, 2, 0, 0, 0, 0), (.aload_n 0, 1, 0, 0, 0, 0), (.getfield 13, 3, 6, 3, 0, 0), (.iconst 1, 1, 0, 0, 1, 0), (.iaload, 1, 0, 0, 0, 0), (.if_icmp .ge 38, 3, 83, 0, 0, 0), (.lload_n 3, 1, 0, 0, 0, 0), (.iload_n 1, 1, 0, 0, 0, 0), (.iconst (-1), 1, 0, 0, (-1), 0), (.if_icmp .eq 9, 3, 60, 0, 0, 0), (.iload 5, 2, 0, 0, 0, 0), (.iload_n 1, 1, 0, 0, 0, 0), (.if_icmp .ne 17, 3, 74, 0, 0, 0)]
def zb_199_60 : List zN := [(.aload_n 0, 1, 0, 0, 0, 0), (.getfield 16, 3, 6, 4, 0, 0), (.iconst 2, 1, 0, 0, 2, 0), (.iload 5, 2, 0, 0, 0, 0), (.imul, 1, 0, 0, 0, 0), (.iload_n 2, 1, 0, 0, 0, 0), (.iadd, 1, 0, 0, 0, 0), (.laload, 1, 0, 0, 0, 0), (.goto 4, 3, 75, 0, 0, 0)]
def zb_199_74 : List zN := [(.lconst 0, 1, 0, 0, 0, 0)]
def zb_199_75 : List zN := [(.ladd, 1, 0, 0, 0, 0), (.lstore_n 3, 1, 0, 0, 0, 0), (.iinc 5 1, 3, 0, 0, 1, 0), (.goto (-43), 3, 37, 0, 0, 0)]
def zb_199_83 : List zN := [(.lload_n 3, 1, 0, 0, 0, 0), (.lreturn, 1, 0, 0, 0, 0)]
def zc_199 (pc : Nat) : List zN := if pc = 0 then zb_199_0 else if pc = 18 then zb_199_18 else if pc = 28 then zb_199_28 else if pc = 32 then zb_199_32 else if pc = 37 then zb_199_37 else if pc = 60 then zb_199_60 else if pc = 74 then zb_199_74 else if pc = 75 then zb_199_75 else if pc = 83 then zb_199_83 else []
def zb_200_0 : List zN := [(.aload_n 0, 1, 0, 0, 0, 0), (.iconst 0, 1, 0, 0, 0, 0), (.putfield 51, 3, 6, 0, 0, 0), (.aload_n 0, 1, 0, 0, 0, 0), (.iload_n 1, 1, 0, 0, 0, 0), (.invokevirtual 180, 3, 158, 1, 0, 0), (.ifCond .ne 5, 3, 15, 0, 0, 0), (.iconst (-1), 1, 0, 0, (-1), 0), (.ireturn, 1, 0, 0, 0, 0)]
def zb_200_15 : List zN := [(.iload_n 1, 1, 0, 0, 0, 0), (.invokestatic 115, 3, 147, 1, 0, 0), (.istore_n 3, 1, 0, 0, 0, 0), (.iload_n 2, 1, 0, 0, 0, 0), (.i2l, 1, 0, 0, 0, 0), (.lconst 0, 1, 0, 0, 0, 0), (.ldc2_w 83, 3, 0, 0, 0, 4), (.invokestatic 79, 3, 130, 3, 0, 0), (.ifCond .eq 14, 3, 43, 0, 0, 0), (.aload_n 0, 1, 0, 0, 0, 0), (.getfield 13, 3, 6, 3, 0, 0), (.iload_n 3, 1, 0, 0, 0, 0), (.iload_n 2, 1, 0, 0, 0, 0), (.iadd, 1, 0, 0, 0, 0), (.iaload, 1, 0, 0, 0, 0), (.goto 47, 3, 87, 0, 0, 0)]
def zb_200_43 : List zN := [(.iload_n 2, 1, 0, 0, 0, 0), (.iconst 5, 1, 0, 0, 5, 0), (.if_icmp .ne 11, 3, 56, 0, 0, 0), (.aload_n 0, 1, 0, 0, 0, 0), (.iload_n 1, 1, 0, 0, 0, 0), (.invokevirtual 121, 3, 146, 1, 0, 0), (.goto 34, 3, 87, 0, 0, 0)]
def zb_200_56 : List zN := [(.iload_n 2, 1, 0, 0, 0, 0), (.i2l, 1, 0, 0, 0, 0), (.ldc2_w 253, 3, 0, 0, 0, 6), (.ldc2_w 255, 3, 0, 0, 0, 8), (.invokestatic 79, 3, 130, 3, 0, 0), (.ifCond .eq 19, 3, 86, 0, 0, 0), (.aload_n 0, 1, 0, 0, 0, 0), (.getfield 13, 3, 6, 3, 0, 0), (.iload_n 3, 1, 0, 0, 0, 0), (.iconst 5, 1, 0, 0, 5, 0), (.iadd, 1, 0, 0, 0, 0), (.iload_n 2, 1, 0, 0, 0, 0), (.iadd, 1, 0, 0, 0, 0), (.bipush 6, 2, 0, 0, 6, 0), (.isub, 1, 0, 0, 0, 0), (.iaload, 1, 0, 0, 0, 0), (.goto 4, 3, 87, 0, 0, 0)]
def zb_200_86 : List zN := [(.iconst (-1), 1, 0, 0, (-1), 0)]
def zb_200_87 : List zN := [(.ireturn, 1, 0, 0, 0, 0)]
def zc_200 (pc : Nat) : List zN := if pc = 0 then zb_200_0 else if pc = 15 then zb_200_15 else if pc = 43 then zb_200_43 else if pc = 56 then zb_200_56 else if pc = 86 then zb_200_86 else if pc = 87 then zb_200_87 else []
def zb_201_0 : List zN := [(.aload_n 0, 1, 0, 0, 0, 0), (.iconst 0, 1, 0, 0, 0, 0), (.putfield 51, 3, 6, 0, 0, 0), (.aload_n 0, 1, 0, 0, 0, 0), (.iload_n 1, 1, 0, 0, 0, 0), (.invokevirtual 88, 3, 174, 1, 0, 0), (.ifCond .ne 5, 3, 15, 0, 0, 0), (.iconst (-1), 1, 0, 0, (-1), 0), (.ireturn, 1, 0, 0, 0, 0)]
def zb_201_15 : List zN := [(.iload_n 1, 1, 0, 0, 0, 0), (.invokestatic 85, 3, 138, 1, 0, 0), (.istore_n 3, 1, 0, 0, 0, 0), (.aload_n 0, 1, 0, 0, 0, 0), (.getfield 13, 3, 6, 3, 0, 0), (.iload_n 3, 1, 0, 0, 0, 0), (.bipush 6, 2, 0, 0, 6, 0), (.iadd, 1, 0, 0, 0, 0), (.iaload, 1, 0, 0, 0, 0), (.ifCond .ne 7, 3, 36, 0, 0, 0), (.iconst 1, 1, 0, 0, 1, 0), (.goto 4, 3, 37, 0, 0, 0)]
def zb_201_36 : List zN := [(.iconst 0, 1, 0, 0, 0, 0)]
def zb_201_37 : List zN := [(.istore 4, 2, 0, 0, 0, 0), (.iload_n 2, 1, 0, 0, 0, 0), (.tableswitch 256 0 14 #[76, 86, 95, 104, 113, 122, 131, 140, 172, 182, 188, 198, 208, 218, 246], 76, 296, 0, 0, 0)]
def zb_201_116 : List zN := [(.aload_n 0, 1, 0, 0, 0, 0), (.getfield 13, 3, 6, 3, 0, 0), (.iload_n 3, 1, 0, 0, 0, 0), (.bipush 6, 2, 0, 0, 6, 0), (.iadd, 1, 0, 0, 0, 0), (.iaload, 1, 0, 0, 0, 0), (.ireturn, 1, 0, 0, 0, 0)]
def zb_201_126 : List zN := [(.aload_n 0, 1, 0, 0, 0, 0), (.getfield 13, 3, 6, 3, 0, 0), (.iload_n 3, 1, 0, 0, 0, 0), (.iconst 0, 1, 0, 0, 0, 0), (.iadd, 1, 0, 0, 0, 0), (.iaload, 1, 0, 0, 0, 0), (.ireturn, 1, 0, 0, 0, 0)]
def zb_201_135 : List zN := [(.aload_n 0, 1, 0, 0, 0, 0), (.getfield 13, 3, 6, 3, 0, 0), (.iload_n 3, 1, 0, 0, 0, 0), (.iconst 1, 1, 0, 0, 1, 0), (.iadd, 1, 0, 0, 0, 0), (.iaload, 1, 0, 0, 0, 0), (.ireturn, 1, 0, 0, 0, 0)]
def zb_201_144 : List zN := [(.aload_n 0, 1, 0, 0, 0, 0), (.getfield 13, 3, 6, 3, 0, 0), (.iload_n 3, 1, 0, 0, 0, 0), (.iconst 2, 1, 0, 0, 2, 0), (.iadd, 1, 0, 0, 0, 0), (.iaload, 1, 0, 0, 0, 0), (.ireturn, 1, 0, 0, 0, 0)]
def zb_201_153 : List zN := [(.aload_n 0, 1, 0, 0, 0, 0), (.getfield 13, 3, 6, 3, 0, 0), (.iload_n 3, 1, 0, 0, 0, 0), (.iconst 3, 1, 0, 0, 3, 0), (.iadd, 1, 0, 0, 0, 0), (.iaload, 1, 0, 0, 0, 0), (.ireturn, 1, 0, 0, 0, 0)]
def zb_201_162 : List zN := [(.aload_n 0, 1, 0, 0, 0, 0), (.getfield 13, 3, 6, 3, 0, 0), (.iload_n 3, 1, 0, 0, 0, 0), (.iconst 4, 1, 0, 0, 4, 0), (.iadd, 1, 0, 0, 0, 0), (.iaload, 1, 0, 0, 0, 0), (.ireturn, 1, 0, 0, 0, 0)]
def zb_201_171 : List zN := [(.aload_n 0, 1, 0, 0, 0, 0), (.getfield 13, 3, 6, 3, 0, 0), (.iload_n 3, 1, 0, 0, 0, 0), (.iconst 5, 1, 0, 0, 5, 0), (.iadd, 1, 0, 0, 0, 0), (.iaload, 1, 0, 0, 0, 0), (.ireturn, 1, 0, 0, 0, 0)]
def zb_201_180 : List zN := [(.iload 4, 2, 0, 0, 0, 0), (.ifCond .ne 16, 3, 198, 0, 0, 0), (.aload_n 0, 1, 0, 0, 0, 0), (.getfield 13, 3, 6, 3, 0, 0), (.iload_n 3, 1, 0, 0, 0, 0), (.bipush 6, 2, 0, 0, 6, 0), (.iadd, 1, 0, 0, 0, 0), (.iaload, 1, 0, 0, 0, 0), (.iconst 4, 1, 0, 0, 4, 0), (.if_icmp .ne 7, 3, 202, 0, 0, 0)]
def zb_201_198 : List zN := [(.iconst (-1), 1, 0, 0, (-1), 0), (.goto 12, 3, 211, 0, 0, 0)]
def zb_201_202 : List zN := [(.aload_n 0, 1, 0, 0, 0, 0), (.getfield 13, 3, 6, 3, 0, 0), (.iload_n 3, 1, 0, 0, 0, 0), (.bipush 7, 2, 0, 0, 7, 0), (.iadd, 1, 0, 0, 0, 0), (.iaload, 1, 0, 0, 0, 0)]
def zb_201_211 : List zN := [(.ireturn, 1, 0, 0, 0, 0)]
def zb_201_212 : List zN := [(.aload_n 0, 1, 0, 0, 0, 0), (.getfield 13, 3, 6, 3, 0, 0), (.iload_n 3, 1, 0, 0, 0, 0), (.bipush 8, 2, 0, 0, 8, 0), (.iadd, 1, 0, 0, 0, 0), (.iaload, 1, 0, 0, 0, 0), (.ireturn, 1, 0, 0, 0, 0)]
def zb_201_222 : List zN := [(.aload_n 0, 1, 0, 0, 0, 0), (.iload_n 1, 1, 0, 0, 0, 0), (.invokevirtual 137, 3, 166, 1, 0, 0), (.ireturn, 1, 0, 0, 0, 0)]
def zb_201_228 : List zN := [(.aload_n 0, 1, 0, 0, 0, 0), (.getfield 13, 3, 6, 3, 0, 0), (.iload_n 3, 1, 0, 0, 0, 0), (.bipush 9, 2, 0, 0, 9, 0), (.iadd, 1, 0, 0, 0, 0), (.iaload, 1, 0, 0, 0, 0), (.ireturn, 1, 0, 0, 0, 0)]
def zb_201_238 : List zN := [(.aload_n 0, 1, 0, 0, 0, 0), (.getfield 13, 3, 6, 3, 0, 0), (.iload_n 3, 1, 0, 0, 0, 0), (.bipush 10, 2, 0, 0, 10, 0), (.iadd, 1, 0, 0, 0, 0), (.iaload, 1, 0, 0, 0, 0), (.ireturn, 1, 0, 0, 0, 0)]
def zb_201_248 : List zN := [(.aload_n 0, 1, 0, 0, 0, 0), (.getfield 13, 3, 6, 3, 0, 0), (.iload_n 3, 1, 0, 0, 0, 0), (.bipush 11, 2, 0, 0, 11, 0), (.iadd, 1, 0, 0, 0, 0), (.iaload, 1, 0, 0, 0, 0), (.ireturn, 1, 0, 0, 0, 0)]
def zb_201_258 : List zN := [(.iload 4, 2, 0, 0, 0, 0), (.ifCond .ne 16, 3, 276, 0, 0, 0), (.aload_n 0, 1, 0, 0, 0, 0), (.getfield 13, 3, 6, 3, 0, 0), (.iload_n 3, 1, 0, 0, 0, 0), (.bipush 6, 2, 0, 0, 6, 0), (.iadd, 1, 0, 0, 0, 0), (.iaload, 1, 0, 0, 0, 0), (.iconst 1, 1, 0, 0, 1, 0), (.if_icmp .ne 11, 3, 284, 0, 0, 0)]
def zb_201_276 : List zN := [(.aload_n 0, 1, 0, 0, 0, 0), (.iload_n 1, 1, 0, 0, 0, 0), (.invokevirtual 134, 3, 139, 1, 0, 0), (.goto 4, 3, 285, 0, 0, 0)]
def zb_201_284 : List zN := [(.iconst 0, 1, 0, 0, 0, 0)]
def zb_201_285 : List zN := [(.ireturn, 1, 0, 0, 0, 0)]
def zb_201_286 : List zN := [(.aload_n 0, 1, 0, 0, 0, 0), (.getfield 13, 3, 6, 3, 0, 0), (.iload_n 3, 1, 0, 0, 0, 0), (.bipush 12, 2, 0, 0, 12, 0), (.iadd, 1, 0, 0, 0, 0), (.iaload, 1, 0, 0, 0, 0), (.ireturn, 1, 0, 0, 0, 0)]
def zb_201_296 : List zN := [(.iconst (-1), 1, 0, 0, (-1), 0), (.ireturn, 1, 0, 0, 0, 0)]
def zc_201 (pc : Nat) : List zN := if pc = 0 then zb_201_0 else if pc = 15 then zb_201_15 else if pc = 36 then zb_201_36 else if pc = 37 then zb_201_37 else if pc = 116 then zb_201_116 else if pc = 126 then zb_201_126 else if pc = 135 then zb_201_135 else if pc = 144 then zb_201_144 else if pc = 153 then zb_201_153 else if pc = 162 then zb_201_162 else if pc = 171 then zb_201_171 else if pc = 180 then zb_201_180 else if pc = 198 then zb_201_198 else if pc = 202 then zb_201_202 else if pc = 211 then zb_201_211 else if pc = 212 then zb_201_212 else if pc = 222 then zb_201_222 else if pc = 228 then zb_201_228 else if pc = 238 then zb_201_238 else if pc = 248 then zb_201_248 else if pc = 258 then zb_201_258 else if pc = 276 then zb_201_276 else if pc = 284 then zb_201_284 else if pc = 285 then zb_201_285 else if pc = 286 then zb_201_286 else if pc = 296 then zb_201_296 else []
def zb_202_0 : List zN := [(.aload_n 0, 1, 0, 0, 0, 0), (.iconst 0, 1, 0, 0, 0, 0), (.putfield 51, 3, 6, 0, 0, 0), (.aload_n 0, 1, 0, 0, 0, 0), (.iload_n 1, 1, 0, 0, 0, 0), (.invokevirtual 88, 3, 174, 1, 0, 0), (.ifCond .eq 29, 3, 39, 0, 0, 0), (.iload_n 2, 1, 0, 0, 0, 0), (.i2l, 1, 0, 0, 0, 0), (.lconst 0, 1, 0, 0, 0, 0), (.lconst 1, 1, 0, 0, 0, 1), (.invokestatic 79, 3, 130, 3, 0, 0), (.ifCond .eq 19, 3, 39, 0, 0, 0), (.aload_n 0, 1, 0, 0, 0, 0), (.getfield 16, 3, 6, 4, 0, 0), (.bipush 8, 2, 0, 0, 8, 0), (.iconst 2, 1, 0, 0, 2, 0), (.iload_n 1, 1, 0, 0, 0, 0), (.imul, 1, 0, 0, 0, 0), (.iadd, 1, 0, 0, 0, 0), (.iload_n 2, 1, 0, 0, 0, 0), (.iadd, 1, 0, 0, 0, 0), (.laload, 1, 0, 0, 0, 0), (.goto 6, 3, 42, 0, 0, 0)]
def zb_202_39 : List zN := [(.ldc2_w 251, 3, 0, 0, 0, (-1))]
def zb_202_42 : List zN := [(.lreturn, 1, 0, 0, 0, 0)]
def zc_202 (pc : Nat) : List zN := if pc = 0 then zb_202_0 else if pc = 39 then zb_202_39 else if pc = 42 then zb_202_42 else []
def zb_203_0 : List zN := [(.aload_n 0, 1, 0, 0, 0, 0), (.iconst 0, 1, 0, 0, 0, 0), (.putfield 51, 3, 6, 0, 0, 0), (.aload_n 0, 1, 0, 0, 0, 0), (.iload_n 1, 1, 0, 0, 0, 0), (.invokevirtual 88, 3, 174, 1, 0, 0), (.ifCond .eq 28, 3, 38, 0, 0, 0), (.aload_n 0, 1, 0, 0, 0, 0), (.iload_n 2, 1, 0, 0, 0, 0), (.invokevirtual 166, 3, 151, 1, 0, 0), (.ifCond .eq 20, 3, 38, 0, 0, 0), (.aload_n 0, 1, 0, 0, 0, 0), (.getfield 13, 3, 6, 3, 0, 0), (.iload_n 1, 1, 0, 0, 0, 0), (.invokestatic 85, 3, 138, 1, 0, 0), (.bipush 13, 2, 0, 0, 13, 0), (.iadd, 1, 0, 0, 0, 0), (.iload_n 2, 1, 0, 0, 0, 0), (.iadd, 1, 0, 0, 0, 0), (.iaload, 1, 0, 0, 0, 0), (.goto 4, 3, 39, 0, 0, 0)]
def zb_203_38 : List zN := [(.iconst (-1), 1, 0, 0, (-1), 0)]
def zb_203_39 : List zN := [(.ireturn, 1, 0, 0, 0, 0)]
def zc_203 (pc : Nat) : List zN := if pc = 0 then zb_203_0 else if pc = 38 then zb_203_38 else if pc = 39 then zb_203_39 else []
def zb_204_0 : List zN := [(.aload_n 0, 1, 0, 0, 0, 0), (.iconst 0, 1, 0, 0, 0, 0), (.putfield 51, 3, 6, 0, 0, 0), (.iload_n 1, 1, 0, 0, 0, 0), (.invokestatic 183, 3, 160, 1, 0, 0), (.ifCond .eq 24, 3, 33, 0, 0, 0), (.iload_n 2, 1, 0, 0, 0, 0), (.i2l, 1, 0, 0, 0, 0), (.lconst 0, 1, 0, 0, 0, 0), (.ldc2_w 196, 3, 0, 0, 0, 9999), (.invokestatic 79, 3, 130, 3, 0, 0), (.ifCond .eq 12, 3, 33, 0, 0, 0), (.aload_n 0, 1, 0, 0, 0, 0), (.iload_n 1, 1, 0, 0, 0, 0), (.iload_n 2, 1, 0, 0, 0, 0), (.invokevirtual 101, 3, 143, 2, 0, 0), (.goto 4, 3, 34, 0, 0, 0)]
def zb_204_33 : List zN := [(.iconst (-1), 1, 0, 0, (-1), 0)]
def zb_204_34 : List zN := [(.ireturn, 1, 0, 0, 0, 0)]
def zc_204 (pc : Nat) : List zN := if pc = 0 then zb_204_0 else if pc = 33 then zb_204_33 else if pc = 34 then zb_204_34 else []
def zb_205_0 : List zN := [(.aload_n 0, 1, 0, 0, 0, 0), (.iconst 0, 1, 0, 0, 0, 0), (.putfield 51, 3, 6, 0, 0, 0), (.iload_n 1, 1, 0, 0, 0, 0), (.invokestatic 183, 3, 160, 1, 0, 0), (.ifCond .eq 37, 3, 46, 0, 0, 0), (.iload_n 2, 1, 0, 0, 0, 0), (.i2l, 1, 0, 0, 0, 0), (.lconst 0, 1, 0, 0, 0, 0), (.ldc2_w 196, 3, 0, 0, 0, 9999), (.invokestatic 79, 3, 130, 3, 0, 0), (.ifCond .eq 25, 3, 46, 0, 0, 0), (.iload_n 3, 1, 0, 0, 0, 0), (.i2l, 1, 0, 0, 0, 0), (.lconst 0, 1, 0, 0, 0, 0), (.ldc2_w 191, 3, 0, 0, 0, 999), (.invokestatic 79, 3, 130, 3, 0, 0), (.ifCond .eq 13, 3, 46, 0, 0, 0), (.aload_n 0, 1, 0, 0, 0, 0), (.iload_n 1, 1, 0, 0, 0, 0), (.iload_n 2, 1, 0, 0, 0, 0), (.iload_n 3, 1, 0, 0, 0, 0), (.invokevirtual 148, 3, 184, 3, 0, 0), (.goto 4, 3, 47, 0, 0, 0)]
def zb_205_46 : List zN := [(.iconst (-1), 1, 0, 0, (-1), 0)]
def zb_205_47 : List zN := [(.ireturn, 1, 0, 0, 0, 0)]
def zc_205 (pc : Nat) : List zN := if pc = 0 then zb_205_0 else if pc = 46 then zb_205_46 else if pc = 47 then zb_205_47 else []
def zb_206_0 : List zN := [(.aload_n 0, 1, 0, 0, 0, 0), (.iconst 0, 1, 0, 0, 0, 0), (.putfield 51, 3, 6, 0, 0, 0), (.iload_n 2, 1, 0, 0, 0, 0), (.ifCond .ge 5, 3, 11, 0, 0, 0), (.iconst (-1), 1, 0, 0, (-1), 0), (.ireturn, 1, 0, 0, 0, 0)]
def zb_206_11 : List zN := [(.iload_n 1, 1, 0, 0, 0, 0), (.ifCond .ne 11, 3, 23, 0, 0, 0), (.aload_n 0, 1, 0, 0, 0, 0), (.iload_n 2, 1, 0, 0, 0, 0), (.invokevirtual 257, 3, 207, 1, 0, 0), (.goto 30, 3, 50, 0, 0, 0)]
def zb_206_23 : List zN := [(.iload_n 1, 1, 0, 0, 0, 0), (.iconst 1, 1, 0, 0, 1, 0), (.if_icmp .ne 11, 3, 36, 0, 0, 0), (.aload_n 0, 1, 0, 0, 0, 0), (.iload_n 2, 1, 0, 0, 0, 0), (.invokevirtual 260, 3, 208, 1, 0, 0), (.goto 17, 3, 50, 0, 0, 0)]
def zb_206_36 : List zN := [(.iload_n 1, 1, 0, 0, 0, 0), (.iconst 2, 1, 0, 0, 2, 0), (.if_icmp .ne 11, 3, 49, 0, 0, 0), (.aload_n 0, 1, 0, 0, 0, 0), (.iload_n 2, 1, 0, 0, 0, 0), (.invokevirtual 263, 3, 209, 1, 0, 0), (.goto 4, 3, 50, 0, 0, 0)]
def zb_206_49 : List zN := [(.iconst (-1), 1, 0, 0, (-1), 0)]
def zb_206_50 : List zN := [(.ireturn, 1, 0, 0, 0, 0)]
def zc_206 (pc : Nat) : List zN := if pc = 0 then zb_206_0 else if pc = 11 then zb_206_11 else if pc = 23 then zb_206_23 else if pc = 36 then zb_206_36 else if pc = 49 then zb_206_49 else if pc = 50 then zb_206_50 else []
def zb_207_0 : List zN := [(.iconst 0, 1, 0, 0, 0, 0), (.istore_n 2, 1, 0, 0, 0, 0), (.iconst (-1), 1, 0, 0, (-1), 0), (.istore_n 3, 1, 0, 0, 0, 0), (.iconst 0, 1, 0, 0, 0, 0), (.istore 4, 2, 0, 0, 0, 0)]
def zb_207_7 : List zN := [(.iload 4, 2, 0, 0, 0, 0), (.bipush 10, 2, 0, 0, 10, 0), (.if_icmp .ge 70, 3, 81, 0, 0, 0), (.iconst 0, 1, 0, 0, 0, 0), (.istore 5, 2, 0, 0, 0, 0)]
def zb_207_17 : List zN := [(.iload 5, 2, 0, 0, 0, 0), (.aload_n 0, 1, 0, 0, 0, 0), (.getfield 13, 3, 6, 3, 0, 0), (.iconst 3, 1, 0, 0, 3, 0), (.iaload, 1, 0, 0, 0, 0), (.if_icmp .ge 50, 3, 75, 0, 0, 0), (.aload_n 0, 1, 0, 0, 0, 0), (.iload 5, 2, 0, 0, 0, 0), (.invokevirtual 92, 3, 164, 1, 0, 0), (.ifCond .ne 35, 3, 69, 0, 0, 0), (.aload_n 0, 1, 0, 0, 0, 0), (.getfield 13, 3, 6, 3, 0, 0), (.iload 5, 2, 0, 0, 0, 0), (.invokestatic 85, 3, 138, 1, 0, 0), (.iconst 5, 1, 0, 0, 5, 0), (.iadd, 1, 0, 0, 0, 0), (.iaload, 1, 0, 0, 0, 0), (.iload 4, 2, 0, 0, 0, 0), (.if_icmp .ne 18, 3, 69, 0, 0, 0), (.iload_n 2, 1, 0, 0, 0, 0), (.iload_n 1, 1, 0, 0, 0, 0), (.if_icmp .ne 8, 3, 64, 0, 0, 0), (.iload 5, 2, 0, 0, 0, 0), (.goto 4, 3, 65, 0, 0, 0)]
def zb_207_64 : List zN := [(.iload_n 3, 1, 0, 0, 0, 0)]
def zb_207_65 : List zN := [(.istore_n 3, 1, 0, 0, 0, 0), (.iinc 2 1, 3, 0, 0, 1, 0)]
def zb_207_69 : List zN := [(.iinc 5 1, 3, 0, 0, 1, 0), (.goto (-55), 3, 17, 0, 0, 0)]
def zb_207_75 : List zN := [(.iinc 4 1, 3, 0, 0, 1, 0), (.goto (-71), 3, 7, 0, 0, 0)]
def zb_207_81 : List zN := [(.iload_n 3, 1, 0, 0, 0, 0), (.ireturn, 1, 0, 0, 0, 0)]
def zc_207 (pc : Nat) : List zN := if pc = 0 then zb_207_0 else if pc = 7 then zb_207_7 else if pc = 17 then zb_207_17 else if pc = 64 then zb_207_64 else if pc = 65 then zb_207_65 else if pc = 69 then zb_207_69 else if pc = 75 then zb_207_75 else if pc = 81 then zb_207_81 else []
def zb_208_0 : List zN := [(.aload_n 0, 1, 0, 0, 0, 0), (.iconst (-1), 1, 0, 0, (-1), 0), (.iconst 0, 1, 0, 0, 0, 0), (.iconst (-1), 1, 0, 0, (-1), 0), (.invokevirtual 237, 3, 189, 3, 0, 0), (.istore_n 2, 1, 0, 0, 0, 0), (.iconst 0, 1, 0, 0, 0, 0), (.istore_n 3, 1, 0, 0, 0, 0)]
def zb_208_10 : List zN := [(.iload_n 3, 1, 0, 0, 0, 0), (.iload_n 1, 1, 0, 0, 0, 0), (.if_icmp .ge 22, 3, 34, 0, 0, 0), (.iload_n 2, 1, 0, 0, 0, 0), (.iconst (-1), 1, 0, 0, (-1), 0), (.if_icmp .eq 17, 3, 34, 0, 0, 0), (.aload_n 0, 1, 0, 0, 0, 0), (.iconst (-1), 1, 0, 0, (-1), 0), (.iconst 0, 1, 0, 0, 0, 0), (.iload_n 2, 1, 0, 0, 0, 0), (.invokevirtual 237, 3, 189, 3, 0, 0), (.istore_n 2, 1, 0, 0, 0, 0), (.iinc 3 1, 3, 0, 0, 1, 0), (.goto (-21), 3, 10, 0, 0, 0)]
def zb_208_34 : List zN := [(.iload_n 2, 1, 0, 0, 0, 0), (.ireturn, 1, 0, 0, 0, 0)]
def zc_208 (pc : Nat) : List zN := if pc = 0 then zb_208_0 else if pc = 10 then zb_208_10 else if pc = 34 then zb_208_34 else []
def zb_209_0 : List zN := [(.iconst 0, 1, 0, 0, 0, 0), (.istore_n 2, 1, 0, 0, 0, 0), (.iconst (-1), 1, 0, 0, (-1), 0), (.istore_n 3, 1, 0, 0, 0, 0), (.iconst 0, 1, 0, 0, 0, 0), (.istore 4, 2, 0, 0, 0, 0)]
def zb_209_7 : List zN := [(.iload 4, 2, 0, 0, 0, 0), (.aload_n 0, 1, 0, 0, 0, 0), (.getfield 13, 3, 6, 3, 0, 0), (.iconst 3, 1, 0, 0, 3, 0), (.iaload, 1, 0, 0, 0, 0), (.if_icmp .ge 48, 3, 63, 0, 0, 0), (.aload_n 0, 1, 0, 0, 0, 0), (.iload 4, 2, 0, 0, 0, 0), (.invokevirtual 222, 3, 177, 1, 0, 0), (.ifCond .eq 33, 3, 57, 0, 0, 0), (.aload_n 0, 1, 0, 0, 0, 0), (.iload 4, 2, 0, 0, 0, 0), (.invokevirtual 219, 3, 180, 1, 0, 0), (.aload_n 0, 1, 0, 0, 0, 0), (.getfield 13, 3, 6, 3, 0, 0), (.iconst 0, 1, 0, 0, 0, 0), (.iaload, 1, 0, 0, 0, 0), (.if_icmp .ge 18, 3, 57, 0, 0, 0), (.iload_n 2, 1, 0, 0, 0, 0), (.iload_n 1, 1, 0, 0, 0, 0), (.if_icmp .ne 8, 3, 52, 0, 0, 0), (.iload 4, 2, 0, 0, 0, 0), (.goto 4, 3, 53, 0, 0, 0)]
def zb_209_52 : List zN := [(.iload_n 3, 1, 0, 0, 0, 0)]
def zb_209_53 : List zN := [(.istore_n 3, 1, 0, 0, 0, 0), (.iinc 2 1, 3, 0, 0, 1, 0)]
def zb_209_57 : List zN := [(.iinc 4 1, 3, 0, 0, 1, 0), (.goto (-53), 3, 7, 0, 0, 0)]
def zb_209_63 : List zN := [(.iload_n 3, 1, 0, 0, 0, 0), (.ireturn, 1, 0, 0, 0, 0)]
def zc_209 (pc : Nat) : List zN := if pc = 0 then zb_209_0 else if pc = 7 then zb_209_7 else if pc = 52 then zb_209_52 else if pc = 53 then zb_209_53 else if pc = 57 then zb_209_57 else if pc = 63 then zb_209_63 else []
def zb_210_0 : List zN := [(.aload_n 0, 1, 0, 0, 0, 0), (.iconst 0, 1, 0, 0, 0, 0), (.putfield 51, 3, 6, 0, 0, 0), (.aload_n 0, 1, 0, 0, 0, 0), (.iload_n 1, 1, 0, 0, 0, 0), (.invokevirtual 180, 3, 158, 1, 0, 0), (.ifCond .eq 22, 3, 32, 0, 0, 0), (.iload_n 2, 1, 0, 0, 0, 0), (.invokestatic 183, 3, 160, 1, 0, 0), (.ifCond .eq 15, 3, 32, 0, 0, 0), (.iload_n 3, 1, 0, 0, 0, 0), (.i2l, 1, 0, 0, 0, 0), (.lconst 1, 1, 0, 0, 0, 1), (.ldc2_w 209, 3, 0, 0, 0, 90), (.invokestatic 79, 3, 130, 3, 0, 0), (.ifCond .ne 5, 3, 34, 0, 0, 0)]
def zb_210_32 : List zN := [(.iconst (-1), 1, 0, 0, (-1), 0), (.ireturn, 1, 0, 0, 0, 0)]
def zb_210_34 : List zN := [(.aload_n 0, 1, 0, 0, 0, 0), (.iload_n 2, 1, 0, 0, 0, 0), (.aload_n 0, 1, 0, 0, 0, 0), (.getfield 13, 3, 6, 3, 0, 0), (.iconst 0, 1, 0, 0, 0, 0), (.iaload, 1, 0, 0, 0, 0), (.aload_n 0, 1, 0, 0, 0, 0), (.getfield 13, 3, 6, 3, 0, 0), (.iconst 0, 1, 0, 0, 0, 0), (.iaload, 1, 0, 0, 0, 0), (.iload_n 3, 1, 0, 0, 0, 0), (.iadd, 1, 0, 0, 0, 0), (.invokevirtual 111, 3, 141, 3, 0, 0), (.istore 4, 2, 0, 0, 0, 0), (.iload 4, 2, 0, 0, 0, 0), (.ifCond .ne 9, 3, 66, 0, 0, 0), (.sipush 9999, 3, 0, 0, 9999, 0), (.goto 17, 3, 80, 0, 0, 0)]
def zb_210_66 : List zN := [(.aload_n 0, 1, 0, 0, 0, 0), (.iload_n 1, 1, 0, 0, 0, 0), (.invokevirtual 121, 3, 146, 1, 0, 0), (.iload 4, 2, 0, 0, 0, 0), (.idiv, 1, 0, 0, 0, 0), (.sipush 9999, 3, 0, 0, 9999, 0), (.invokestatic 124, 3, 149, 2, 0, 0)]
def zb_210_80 : List zN := [(.ireturn, 1, 0, 0, 0, 0)]
def zc_210 (pc : Nat) : List zN := if pc = 0 then zb_210_0 else if pc = 32 then zb_210_32 else if pc = 34 then zb_210_34 else if pc = 66 then zb_210_66 else if pc = 80 then zb_210_80 else []
def zb_211_0 : List zN := [(.aload_n 0, 1, 0, 0, 0, 0), (.iconst 0, 1, 0, 0, 0, 0), (.putfield 51, 3, 6, 0, 0, 0), (.iload_n 1, 1, 0, 0, 0, 0), (.invokestatic 183, 3, 160, 1, 0, 0), (.ifCond .eq 25, 3, 34, 0, 0, 0), (.iload_n 2, 1, 0, 0, 0, 0), (.i2l, 1, 0, 0, 0, 0), (.lconst 1, 1, 0, 0, 0, 1), (.ldc2_w 266, 3, 0, 0, 0, 180), (.invokestatic 79, 3, 130, 3, 0, 0), (.ifCond .eq 13, 3, 34, 0, 0, 0), (.iload_n 3, 1, 0, 0, 0, 0), (.i2l, 1, 0, 0, 0, 0), (.lconst 0, 1, 0, 0, 0, 0), (.lconst 1, 1, 0, 0, 0, 1), (.invokestatic 79, 3, 130, 3, 0, 0), (.ifCond .ne 5, 3, 36, 0, 0, 0)]
def zb_211_34 : List zN := [(.iconst (-1), 1, 0, 0, (-1), 0), (.ireturn, 1, 0, 0, 0, 0)]
def zb_211_36 : List zN := [(.iconst (-1), 1, 0, 0, (-1), 0), (.istore 4, 2, 0, 0, 0, 0), (.iconst 0, 1, 0, 0, 0, 0), (.istore 5, 2, 0, 0, 0, 0), (.aload_n 0, 1, 0, 0, 0, 0), (.getfield 13, 3, 6, 3, 0, 0), (.iconst 0, 1, 0, 0, 0, 0), (.iaload, 1, 0, 0, 0, 0), (.istore 6, 2, 0, 0, 0, 0)]
def zb_211_50 : List zN := [(.iload 6, 2, 0, 0, 0, 0), (.aload_n 0, 1, 0, 0, 0, 0), (.getfield 13, 3, 6, 3, 0, 0), (.iconst 0, 1, 0, 0, 0, 0), (.iaload, 1, 0, 0, 0, 0), (.sipush 400, 3, 0, 0, 400, 0), (.iadd, 1, 0, 0, 0, 0), (.if_icmp .ge 60, 3, 122, 0, 0, 0), (.aload_n 0, 1, 0, 0, 0, 0), (.iload_n 1, 1, 0, 0, 0, 0), (.iload 6, 2, 0, 0, 0, 0), (.iload 6, 2, 0, 0, 0, 0), (.iload_n 2, 1, 0, 0, 0, 0), (.iadd, 1, 0, 0, 0, 0), (.invokevirtual 111, 3, 141, 3, 0, 0), (.istore 7, 2, 0, 0, 0, 0), (.iload 4, 2, 0, 0, 0, 0), (.iconst (-1), 1, 0, 0, (-1), 0), (.if_icmp .eq 10, 3, 91, 0, 0, 0), (.iload 7, 2, 0, 0, 0, 0), (.iload 5, 2, 0, 0, 0, 0), (.if_icmp .ge 8, 3, 96, 0, 0, 0)]
def zb_211_91 : List zN := [(.iload 6, 2, 0, 0, 0, 0), (.goto 5, 3, 98, 0, 0, 0)]
def zb_211_96 : List zN := [(.iload 4, 2, 0, 0, 0, 0)]
def zb_211_98 : List zN := [(.istore 4, 2, 0, 0, 0, 0), (.iload 4, 2, 0, 0, 0, 0), (.iload 6, 2, 0, 0, 0, 0), (.if_icmp .ne 8, 3, 112, 0, 0, 0), (.iload 7, 2, 0, 0, 0, 0), (.goto 5, 3, 114, 0, 0, 0)]
def zb_211_112 : List zN := [(.iload 5, 2, 0, 0, 0, 0)]
def zb_211_114 : List zN := [(.istore 5, 2, 0, 0, 0, 0), (.iinc 6 1, 3, 0, 0, 1, 0), (.goto (-69), 3, 50, 0, 0, 0)]
def zb_211_122 : List zN := [(.iload_n 3, 1, 0, 0, 0, 0), (.ifCond .ne 8, 3, 131, 0, 0, 0), (.iload 4, 2, 0, 0, 0, 0), (.goto 5, 3, 133, 0, 0, 0)]
def zb_211_131 : List zN := [(.iload 5, 2, 0, 0, 0, 0)]
def zb_211_133 : List zN := [(.ireturn, 1, 0, 0, 0, 0)]
def zc_211 (pc : Nat) : List zN := if pc = 0 then zb_211_0 else if pc = 34 then zb_211_34 else if pc = 36 then zb_211_36 else if pc = 50 then zb_211_50 else if pc = 91 then zb_211_91 else if pc = 96 then zb_211_96 else if pc = 98 then zb_211_98 else if pc = 112 then zb_211_112 else if pc = 114 then zb_211_114 else if pc = 122 then zb_211_122 else if pc = 131 then zb_211_131 else if pc = 133 then zb_211_133 else []
def zb_212_0 : List zN := [(.aload_n 0, 1, 0, 0, 0, 0), (.iconst 0, 1, 0, 0, 0, 0), (.putfield 51, 3, 6, 0, 0, 0), (.aload_n 0, 1, 0, 0, 0, 0), (.iload_n 1, 1, 0, 0, 0, 0), (.invokevirtual 166, 3, 151, 1, 0, 0), (.ifCond .eq 15, 3, 25, 0, 0, 0), (.iload_n 2, 1, 0, 0, 0, 0), (.i2l, 1, 0, 0, 0, 0), (.lconst 0, 1, 0, 0, 0, 0), (.ldc2_w 268, 3, 0, 0, 0, 3), (.invokestatic 79, 3, 130, 3, 0, 0), (.ifCond .ne 5, 3, 27, 0, 0, 0)]
def zb_212_25 : List zN := [(.iconst (-1), 1, 0, 0, (-1), 0), (.ireturn, 1, 0, 0, 0, 0)]
def zb_212_27 : List zN := [(.iconst 0, 1, 0, 0, 0, 0), (.istore_n 3, 1, 0, 0, 0, 0), (.iconst (-1), 1, 0, 0, (-1), 0), (.istore 4, 2, 0, 0, 0, 0), (.iconst (-1), 1, 0, 0, (-1), 0), (.istore 5, 2, 0, 0, 0, 0), (.iconst 0, 1, 0, 0, 0, 0), (.istore 6, 2, 0, 0, 0, 0), (.iconst 0, 1, 0, 0, 0, 0), (.istore 7, 2, 0, 0, 0, 0)]
def zb_212_41 : List zN := [(.iload 7, 2, 0, 0, 0, 0), (.aload_n 0, 1, 0, 0, 0, 0), (.getfield 13, 3, 6, 3, 0, 0), (.iconst 3, 1, 0, 0, 3, 0), (.iaload, 1, 0, 0, 0, 0), (.if_icmp .ge 117, 3, 166, 0, 0, 0), (.aload_n 0, 1, 0, 0, 0, 0), (.getfield 13, 3, 6, 3, 0, 0), (.iload 7, 2, 0, 0, 0, 0), (.invokestatic 85, 3, 138, 1, 0, 0), (.bipush 13, 2, 0, 0, 13, 0), (.iadd, 1, 0, 0, 0, 0), (.iload_n 1, 1, 0, 0, 0, 0), (.iadd, 1, 0, 0, 0, 0), (.iaload, 1, 0, 0, 0, 0), (.istore 8, 2, 0, 0, 0, 0), (.aload_n 0, 1, 0, 0, 0, 0), (.iload 7, 2, 0, 0, 0, 0), (.invokevirtual 222, 3, 177, 1, 0, 0), (.ifCond .eq 85, 3, 160, 0, 0, 0), (.iload 8, 2, 0, 0, 0, 0), (.ifCond .le 80, 3, 160, 0, 0, 0), (.iinc 3 1, 3, 0, 0, 1, 0), (.iload 4, 2, 0, 0, 0, 0), (.iconst (-1), 1, 0, 0, (-1), 0), (.if_icmp .eq 23, 3, 112, 0, 0, 0), (.iload 8, 2, 0, 0, 0, 0), (.aload_n 0, 1, 0, 0, 0, 0), (.getfield 13, 3, 6, 3, 0, 0), (.iload 4, 2, 0, 0, 0, 0), (.invokestatic 85, 3, 138, 1, 0, 0), (.bipush 13, 2, 0, 0, 13, 0), (.iadd, 1, 0, 0, 0, 0), (.iload_n 1, 1, 0, 0, 0, 0), (.iadd, 1, 0, 0, 0, 0), (.iaload, 1, 0, 0, 0, 0), (.if_icmp .le 8, 3, 117, 0, 0, 0)]
def zb_212_112 : List zN := [(.iload 7, 2, 0, 0, 0, 0), (.goto 5, 3, 119, 0, 0, 0)]
def zb_212_117 : List zN := [(.iload 4, 2, 0, 0, 0, 0)]
def zb_212_119 : List zN := [(.istore 4, 2, 0, 0, 0, 0), (.iload 5, 2, 0, 0, 0, 0), (.aload_n 0, 1, 0, 0, 0, 0), (.iload 7, 2, 0, 0, 0, 0), (.invokevirtual 219, 3, 180, 1, 0, 0), (.invokestatic 105, 3, 144, 2, 0, 0), (.istore 5, 2, 0, 0, 0, 0), (.iload 6, 2, 0, 0, 0, 0), (.aload_n 0, 1, 0, 0, 0, 0), (.iload 7, 2, 0, 0, 0, 0), (.invokevirtual 219, 3, 180, 1, 0, 0), (.aload_n 0, 1, 0, 0, 0, 0), (.getfield 13, 3, 6, 3, 0, 0), (.iconst 0, 1, 0, 0, 0, 0), (.iaload, 1, 0, 0, 0, 0), (.if_icmp .ge 8, 3, 156, 0, 0, 0), (.iload 8, 2, 0, 0, 0, 0), (.goto 4, 3, 157, 0, 0, 0)]
def zb_212_156 : List zN := [(.iconst 0, 1, 0, 0, 0, 0)]
def zb_212_157 : List zN := [(.iadd, 1, 0, 0, 0, 0), (.istore 6, 2, 0, 0, 0, 0)]
def zb_212_160 : List zN := [(.iinc 7 1, 3, 0, 0, 1, 0), (.goto (-122), 3, 41, 0, 0, 0)]
def zb_212_166 : List zN := [(.iload_n 2, 1, 0, 0, 0, 0), (.ifCond .ne 7, 3, 174, 0, 0, 0), (.iload_n 3, 1, 0, 0, 0, 0), (.goto 25, 3, 196, 0, 0, 0)]
def zb_212_174 : List zN := [(.iload_n 2, 1, 0, 0, 0, 0), (.iconst 1, 1, 0, 0, 1, 0), (.if_icmp .ne 8, 3, 184, 0, 0, 0), (.iload 4, 2, 0, 0, 0, 0), (.goto 15, 3, 196, 0, 0, 0)]
def zb_212_184 : List zN := [(.iload_n 2, 1, 0, 0, 0, 0), (.iconst 2, 1, 0, 0, 2, 0), (.if_icmp .ne 8, 3, 194, 0, 0, 0), (.iload 5, 2, 0, 0, 0, 0), (.goto 5, 3, 196, 0, 0, 0)]
def zb_212_194 : List zN := [(.iload 6, 2, 0, 0, 0, 0)]
def zb_212_196 : List zN := [(.ireturn, 1, 0, 0, 0, 0)]
def zc_212 (pc : Nat) : List zN := if pc = 0 then zb_212_0 else if pc = 25 then zb_212_25 else if pc = 27 then zb_212_27 else if pc = 41 then zb_212_41 else if pc = 112 then zb_212_112 else if pc = 117 then zb_212_117 else if pc = 119 then zb_212_119 else if pc = 156 then zb_212_156 else if pc = 157 then zb_212_157 else if pc = 160 then zb_212_160 else if pc = 166 then zb_212_166 else if pc = 174 then zb_212_174 else if pc = 184 then zb_212_184 else if pc = 194 then zb_212_194 else if pc = 196 then zb_212_196 else []
def zb_213_0 : List zN := [(.aload_n 0, 1, 0, 0, 0, 0), (.iconst 0, 1, 0, 0, 0, 0), (.putfield 51, 3, 6, 0, 0, 0), (.aload_n 0, 1, 0, 0, 0, 0), (.iload_n 1, 1, 0, 0, 0, 0), (.invokevirtual 166, 3, 151, 1, 0, 0), (.ifCond .eq 15, 3, 25, 0, 0, 0), (.iload_n 2, 1, 0, 0, 0, 0), (.i2l, 1, 0, 0, 0, 0), (.lconst 1, 1, 0, 0, 0, 1), (.ldc2_w 164, 3, 0, 0, 0, 9999999), (.invokestatic 79, 3, 130, 3, 0, 0), (.ifCond .ne 5, 3, 27, 0, 0, 0)]
def zb_213_25 : List zN := [(.iconst (-1), 1, 0, 0, (-1), 0), (.ireturn, 1, 0, 0, 0, 0)]
def zb_213_27 : List zN := [(.aload_n 0, 1, 0, 0, 0, 0), (.aload_n 0, 1, 0, 0, 0, 0), (.getfield 39, 3, 6, 12, 0, 0), (.aload_n 0, 1, 0, 0, 0, 0), (.getfield 42, 3, 6, 13, 0, 0), (.iconst 0, 1, 0, 0, 0, 0), (.invokevirtual 61, 3, 131, 3, 0, 0), (.aload_n 0, 1, 0, 0, 0, 0), (.iconst 0, 1, 0, 0, 0, 0), (.invokevirtual 213, 3, 175, 1, 0, 0), (.istore_n 3, 1, 0, 0, 0, 0), (.aload_n 0, 1, 0, 0, 0, 0), (.getfield 13, 3, 6, 3, 0, 0), (.iload_n 1, 1, 0, 0, 0, 0), (.invokestatic 95, 3, 135, 1, 0, 0), (.dup2, 1, 0, 0, 0, 0), (.iaload, 1, 0, 0, 0, 0), (.iload_n 2, 1, 0, 0, 0, 0), (.iadd, 1, 0, 0, 0, 0), (.iastore, 1, 0, 0, 0, 0), (.aload_n 0, 1, 0, 0, 0, 0), (.invokevirtual 158, 3, 137, 0, 0, 0), (.iload_n 3, 1, 0, 0, 0, 0), (.aload_n 0, 1, 0, 0, 0, 0), (.iconst 0, 1, 0, 0, 0, 0), (.invokevirtual 213, 3, 175, 1, 0, 0), (.isub, 1, 0, 0, 0, 0), (.istore 4, 2, 0, 0, 0, 0), (.aload_n 0, 1, 0, 0, 0, 0), (.aload_n 0, 1, 0, 0, 0, 0), (.getfield 39, 3, 6, 12, 0, 0), (.aload_n 0, 1, 0, 0, 0, 0), (.getfield 42, 3, 6, 13, 0, 0), (.iconst 0, 1, 0, 0, 0, 0), (.invokevirtual 65, 3, 127, 3, 0, 0), (.iload 4, 2, 0, 0, 0, 0), (.ireturn, 1, 0, 0, 0, 0)]
def zc_213 (pc : Nat) : List zN := if pc = 0 then zb_213_0 else if pc = 25 then zb_213_25 else if pc = 27 then zb_213_27 else []
def zb_214_0 : List zN := [(.aload_n 0, 1, 0, 0, 0, 0), (.iconst 0, 1, 0, 0, 0, 0), (.putfield 51, 3, 6, 0, 0, 0), (.aload_n 0, 1, 0, 0, 0, 0), (.iconst 0, 1, 0, 0, 0, 0), (.invokevirtual 257, 3, 207, 1, 0, 0), (.istore_n 2, 1, 0, 0, 0, 0), (.aload_n 0, 1, 0, 0, 0, 0), (.iload_n 1, 1, 0, 0, 0, 0), (.invokevirtual 166, 3, 151, 1, 0, 0), (.ifCond .eq 8, 3, 24, 0, 0, 0), (.iload_n 2, 1, 0, 0, 0, 0), (.iconst (-1), 1, 0, 0, (-1), 0), (.if_icmp .ne 5, 3, 26, 0, 0, 0)]
def zb_214_24 : List zN := [(.iconst (-1), 1, 0, 0, (-1), 0), (.ireturn, 1, 0, 0, 0, 0)]
def zb_214_26 : List zN := [(.aload_n 0, 1, 0, 0, 0, 0), (.getfield 13, 3, 6, 3, 0, 0), (.iload_n 2, 1, 0, 0, 0, 0), (.invokestatic 85, 3, 138, 1, 0, 0), (.iaload, 1, 0, 0, 0, 0), (.istore_n 3, 1, 0, 0, 0, 0), (.iload_n 3, 1, 0, 0, 0, 0), (.invokestatic 115, 3, 147, 1, 0, 0), (.iconst 5, 1, 0, 0, 5, 0), (.iadd, 1, 0, 0, 0, 0), (.istore 4, 2, 0, 0, 0, 0), (.aload_n 0, 1, 0, 0, 0, 0), (.iload_n 2, 1, 0, 0, 0, 0), (.invokevirtual 134, 3, 139, 1, 0, 0), (.aload_n 0, 1, 0, 0, 0, 0), (.iload_n 3, 1, 0, 0, 0, 0), (.invokevirtual 121, 3, 146, 1, 0, 0), (.isub, 1, 0, 0, 0, 0), (.istore 5, 2, 0, 0, 0, 0), (.aload_n 0, 1, 0, 0, 0, 0), (.getfield 13, 3, 6, 3, 0, 0), (.iload 4, 2, 0, 0, 0, 0), (.iaload, 1, 0, 0, 0, 0), (.iload_n 1, 1, 0, 0, 0, 0), (.if_icmp .eq 29, 3, 94, 0, 0, 0), (.aload_n 0, 1, 0, 0, 0, 0), (.getfield 13, 3, 6, 3, 0, 0), (.iload 4, 2, 0, 0, 0, 0), (.iconst 1, 1, 0, 0, 1, 0), (.iadd, 1, 0, 0, 0, 0), (.iaload, 1, 0, 0, 0, 0), (.iload_n 1, 1, 0, 0, 0, 0), (.if_icmp .eq 16, 3, 94, 0, 0, 0), (.aload_n 0, 1, 0, 0, 0, 0), (.getfield 13, 3, 6, 3, 0, 0), (.iload 4, 2, 0, 0, 0, 0), (.iconst 2, 1, 0, 0, 2, 0), (.iadd, 1, 0, 0, 0, 0), (.iaload, 1, 0, 0, 0, 0), (.iload_n 1, 1, 0, 0, 0, 0), (.if_icmp .ne 7, 3, 98, 0, 0, 0)]
def zb_214_94 : List zN := [(.iconst 1, 1, 0, 0, 1, 0), (.goto 4, 3, 99, 0, 0, 0)]
def zb_214_98 : List zN := [(.iconst 0, 1, 0, 0, 0, 0)]
def zb_214_99 : List zN := [(.istore 6, 2, 0, 0, 0, 0), (.iload 5, 2, 0, 0, 0, 0), (.ifCond .gt 7, 3, 110, 0, 0, 0), (.iconst 0, 1, 0, 0, 0, 0), (.goto 22, 3, 129, 0, 0, 0)]
def zb_214_110 : List zN := [(.iload 6, 2, 0, 0, 0, 0), (.ifCond .eq 16, 3, 128, 0, 0, 0), (.iload 5, 2, 0, 0, 0, 0), (.ldc_w 270, 3, 0, 0, 9999999, 0), (.if_icmp .gt 8, 3, 128, 0, 0, 0), (.iload 5, 2, 0, 0, 0, 0), (.goto 4, 3, 129, 0, 0, 0)]
def zb_214_128 : List zN := [(.iconst (-1), 1, 0, 0, (-1), 0)]
def zb_214_129 : List zN := [(.ireturn, 1, 0, 0, 0, 0)]
def zc_214 (pc : Nat) : List zN := if pc = 0 then zb_214_0 else if pc = 24 then zb_214_24 else if pc = 26 then zb_214_26 else if pc = 94 then zb_214_94 else if pc = 98 then zb_214_98 else if pc = 99 then zb_214_99 else if pc = 110 then zb_214_110 else if pc = 128 then zb_214_128 else if pc = 129 then zb_214_129 else []
def zb_215_0 : List zN := [(.aload_n 0, 1, 0, 0, 0, 0), (.iconst 0, 1, 0, 0, 0, 0), (.putfield 51, 3, 6, 0, 0, 0), (.aload_n 0, 1, 0, 0, 0, 0), (.iload_n 1, 1, 0, 0, 0, 0), (.invokevirtual 166, 3, 151, 1, 0, 0), (.ifCond .eq 13, 3, 23, 0, 0, 0), (.iload_n 2, 1, 0, 0, 0, 0), (.i2l, 1, 0, 0, 0, 0), (.lconst 0, 1, 0, 0, 0, 0), (.lconst 1, 1, 0, 0, 0, 1), (.invokestatic 79, 3, 130, 3, 0, 0), (.ifCond .ne 5, 3, 25, 0, 0, 0)]
def zb_215_23 : List zN := [(.iconst (-1), 1, 0, 0, (-1), 0), (.ireturn, 1, 0, 0, 0, 0)]
def zb_215_25 : List zN := [(.aload_n 0, 1, 0, 0, 0, 0), (.iconst 0, 1, 0, 0, 0, 0), (.putfield 271, 3, 6, 17, 0, 0), (.iconst 0, 1, 0, 0, 0, 0), (.istore_n 3, 1, 0, 0, 0, 0)]
def zb_215_32 : List zN := [(.aload_n 0, 1, 0, 0, 0, 0), (.iload_n 3, 1, 0, 0, 0, 0), (.invokevirtual 257, 3, 207, 1, 0, 0), (.iconst (-1), 1, 0, 0, (-1), 0), (.if_icmp .eq 68, 3, 106, 0, 0, 0), (.aload_n 0, 1, 0, 0, 0, 0), (.getfield 271, 3, 6, 17, 0, 0), (.bipush 10, 2, 0, 0, 10, 0), (.if_icmp .ge 59, 3, 106, 0, 0, 0), (.aload_n 0, 1, 0, 0, 0, 0), (.iload_n 3, 1, 0, 0, 0, 0), (.invokevirtual 257, 3, 207, 1, 0, 0), (.istore 4, 2, 0, 0, 0, 0), (.aload_n 0, 1, 0, 0, 0, 0), (.aload_n 0, 1, 0, 0, 0, 0), (.getfield 13, 3, 6, 3, 0, 0), (.iload 4, 2, 0, 0, 0, 0), (.invokestatic 85, 3, 138, 1, 0, 0), (.iaload, 1, 0, 0, 0, 0), (.iload_n 1, 1, 0, 0, 0, 0), (.invokevirtual 274, 3, 216, 2, 0, 0), (.ifCond .eq 28, 3, 100, 0, 0, 0), (.aload_n 0, 1, 0, 0, 0, 0), (.getfield 48, 3, 6, 16, 0, 0), (.aload_n 0, 1, 0, 0, 0, 0), (.getfield 271, 3, 6, 17, 0, 0), (.aload_n 0, 1, 0, 0, 0, 0), (.iload 4, 2, 0, 0, 0, 0), (.invokevirtual 134, 3, 139, 1, 0, 0), (.iastore, 1, 0, 0, 0, 0), (.aload_n 0, 1, 0, 0, 0, 0), (.dup, 1, 0, 0, 0, 0), (.getfield 271, 3, 6, 17, 0, 0), (.iconst 1, 1, 0, 0, 1, 0), (.iadd, 1, 0, 0, 0, 0), (.putfield 271, 3, 6, 17, 0, 0)]
def zb_215_100 : List zN := [(.iinc 3 1, 3, 0, 0, 1, 0), (.goto (-71), 3, 32, 0, 0, 0)]
def zb_215_106 : List zN := [(.iconst 0, 1, 0, 0, 0, 0), (.istore_n 3, 1, 0, 0, 0, 0), (.iconst 0, 1, 0, 0, 0, 0), (.istore 4, 2, 0, 0, 0, 0), (.iconst 1, 1, 0, 0, 1, 0), (.istore 5, 2, 0, 0, 0, 0)]
def zb_215_114 : List zN := [(.iload 5, 2, 0, 0, 0, 0), (.iconst 1, 1, 0, 0, 1, 0), (.aload_n 0, 1, 0, 0, 0, 0), (.getfield 271, 3, 6, 17, 0, 0), (.ishl, 1, 0, 0, 0, 0), (.if_icmp .ge 81, 3, 203, 0, 0, 0), (.iconst 0, 1, 0, 0, 0, 0), (.istore 6, 2, 0, 0, 0, 0), (.iconst 0, 1, 0, 0, 0, 0), (.istore 7, 2, 0, 0, 0, 0)]
def zb_215_131 : List zN := [(.iload 7, 2, 0, 0, 0, 0), (.aload_n 0, 1, 0, 0, 0, 0), (.getfield 271, 3, 6, 17, 0, 0), (.if_icmp .ge 36, 3, 173, 0, 0, 0), (.iload 6, 2, 0, 0, 0, 0), (.iload 5, 2, 0, 0, 0, 0), (.iload 7, 2, 0, 0, 0, 0), (.ishr, 1, 0, 0, 0, 0), (.iconst 1, 1, 0, 0, 1, 0), (.iand, 1, 0, 0, 0, 0), (.iconst 1, 1, 0, 0, 1, 0), (.if_icmp .ne 13, 3, 163, 0, 0, 0), (.aload_n 0, 1, 0, 0, 0, 0), (.getfield 48, 3, 6, 16, 0, 0), (.iload 7, 2, 0, 0, 0, 0), (.iaload, 1, 0, 0, 0, 0), (.goto 4, 3, 164, 0, 0, 0)]
def zb_215_163 : List zN := [(.iconst 0, 1, 0, 0, 0, 0)]
def zb_215_164 : List zN := [(.iadd, 1, 0, 0, 0, 0), (.istore 6, 2, 0, 0, 0, 0), (.iinc 7 1, 3, 0, 0, 1, 0), (.goto (-39), 3, 131, 0, 0, 0)]
def zb_215_173 : List zN := [(.iload 6, 2, 0, 0, 0, 0), (.aload_n 0, 1, 0, 0, 0, 0), (.iload_n 1, 1, 0, 0, 0, 0), (.invokevirtual 118, 3, 148, 1, 0, 0), (.if_icmp .gt 17, 3, 197, 0, 0, 0), (.iload 6, 2, 0, 0, 0, 0), (.iload 4, 2, 0, 0, 0, 0), (.if_icmp .le 10, 3, 197, 0, 0, 0), (.iload 5, 2, 0, 0, 0, 0), (.istore_n 3, 1, 0, 0, 0, 0), (.iload 6, 2, 0, 0, 0, 0), (.istore 4, 2, 0, 0, 0, 0)]
def zb_215_197 : List zN := [(.iinc 5 1, 3, 0, 0, 1, 0), (.goto (-86), 3, 114, 0, 0, 0)]
def zb_215_203 : List zN := [(.iload_n 2, 1, 0, 0, 0, 0), (.ifCond .ne 7, 3, 211, 0, 0, 0), (.iload_n 3, 1, 0, 0, 0, 0), (.goto 5, 3, 213, 0, 0, 0)]
def zb_215_211 : List zN := [(.iload 4, 2, 0, 0, 0, 0)]
def zb_215_213 : List zN := [(.ireturn, 1, 0, 0, 0, 0)]
def zc_215 (pc : Nat) : List zN := if pc = 0 then zb_215_0 else if pc = 23 then zb_215_23 else if pc = 25 then zb_215_25 else if pc = 32 then zb_215_32 else if pc = 100 then zb_215_100 else if pc = 106 then zb_215_106 else if pc = 114 then zb_215_114 else if pc = 131 then zb_215_131 else if pc = 163 then zb_215_163 else if pc = 164 then zb_215_164 else if pc = 173 then zb_215_173 else if pc = 197 then zb_215_197 else if pc = 203 then zb_215_203 else if pc = 211 then zb_215_211 else if pc = 213 then zb_215_213 else []
def zb_216_0 : List zN := [(.iload_n 1, 1, 0, 0, 0, 0), (.invokestatic 115, 3, 147, 1, 0, 0), (.iconst 5, 1, 0, 0, 5, 0), (.iadd, 1, 0, 0, 0, 0), (.istore_n 3, 1, 0, 0, 0, 0), (.aload_n 0, 1, 0, 0, 0, 0), (.getfield 13, 3, 6, 3, 0, 0), (.iload_n 3, 1, 0, 0, 0, 0), (.iaload, 1, 0, 0, 0, 0), (.iload_n 2, 1, 0, 0, 0, 0), (.if_icmp .ne 31, 3, 45, 0, 0, 0), (.aload_n 0, 1, 0, 0, 0, 0), (.getfield 13, 3, 6, 3, 0, 0), (.iload_n 3, 1, 0, 0, 0, 0), (.iconst 1, 1, 0, 0, 1, 0), (.iadd, 1, 0, 0, 0, 0), (.iaload, 1, 0, 0, 0, 0), (.iconst (-1), 1, 0, 0, (-1), 0), (.if_icmp .ne 19, 3, 45, 0, 0, 0), (.aload_n 0, 1, 0, 0, 0, 0), (.getfield 13, 3, 6, 3, 0, 0), (.iload_n 3, 1, 0, 0, 0, 0), (.iconst 2, 1, 0, 0, 2, 0), (.iadd, 1, 0, 0, 0, 0), (.iaload, 1, 0, 0, 0, 0), (.iconst (-1), 1, 0, 0, (-1), 0), (.if_icmp .ne 7, 3, 45, 0, 0, 0), (.iconst 1, 1, 0, 0, 1, 0), (.goto 4, 3, 46, 0, 0, 0)]
def zb_216_45 : List zN := [(.iconst 0, 1, 0, 0, 0, 0)]
def zb_216_46 : List zN := [(.ireturn, 1, 0, 0, 0, 0)]
def zc_216 (pc : Nat) : List zN := if pc = 0 then zb_216_0 else if pc = 45 then zb_216_45 else if pc = 46 then zb_216_46 else []
def zb_217_0 : List zN := [(.aload_n 0, 1, 0, 0, 0, 0), (.iconst 0, 1, 0, 0, 0, 0), (.putfield 51, 3, 6, 0, 0, 0), (.aload_n 0, 1, 0, 0, 0, 0), (.iload_n 1, 1, 0, 0, 0, 0), (.invokevirtual 180, 3, 158, 1, 0, 0), (.ifCond .eq 33, 3, 43, 0, 0, 0), (.iload_n 2, 1, 0, 0, 0, 0), (.invokestatic 183, 3, 160, 1, 0, 0), (.ifCond .eq 26, 3, 43, 0, 0, 0), (.iload_n 3, 1, 0, 0, 0, 0), (.i2l, 1, 0, 0, 0, 0), (.lconst 1, 1, 0, 0, 0, 1), (.ldc2_w 186, 3, 0, 0, 0, 99999), (.invokestatic 79, 3, 130, 3, 0, 0), (.ifCond .eq 14, 3, 43, 0, 0, 0), (.iload 4, 2, 0, 0, 0, 0), (.i2l, 1, 0, 0, 0, 0), (.lconst 0, 1, 0, 0, 0, 0), (.lconst 1, 1, 0, 0, 0, 1), (.invokestatic 79, 3, 130, 3, 0, 0), (.ifCond .ne 5, 3, 45, 0, 0, 0)]
def zb_217_43 : List zN := [(.iconst (-1), 1, 0, 0, (-1), 0), (.ireturn, 1, 0, 0, 0, 0)]
def zb_217_45 : List zN := [(.aload_n 0, 1, 0, 0, 0, 0), (.iconst 0, 1, 0, 0, 0, 0), (.putfield 271, 3, 6, 17, 0, 0), (.aload_n 0, 1, 0, 0, 0, 0), (.iload_n 1, 1, 0, 0, 0, 0), (.iload_n 2, 1, 0, 0, 0, 0), (.iconst (-1), 1, 0, 0, (-1), 0), (.invokevirtual 237, 3, 189, 3, 0, 0), (.istore 5, 2, 0, 0, 0, 0)]
def zb_217_59 : List zN := [(.iload 5, 2, 0, 0, 0, 0), (.iconst (-1), 1, 0, 0, (-1), 0), (.if_icmp .eq 50, 3, 112, 0, 0, 0), (.aload_n 0, 1, 0, 0, 0, 0), (.getfield 271, 3, 6, 17, 0, 0), (.bipush 12, 2, 0, 0, 12, 0), (.if_icmp .ge 41, 3, 112, 0, 0, 0), (.aload_n 0, 1, 0, 0, 0, 0), (.getfield 48, 3, 6, 16, 0, 0), (.aload_n 0, 1, 0, 0, 0, 0), (.getfield 271, 3, 6, 17, 0, 0), (.aload_n 0, 1, 0, 0, 0, 0), (.iload 5, 2, 0, 0, 0, 0), (.invokevirtual 108, 3, 140, 1, 0, 0), (.iastore, 1, 0, 0, 0, 0), (.aload_n 0, 1, 0, 0, 0, 0), (.dup, 1, 0, 0, 0, 0), (.getfield 271, 3, 6, 17, 0, 0), (.iconst 1, 1, 0, 0, 1, 0), (.iadd, 1, 0, 0, 0, 0), (.putfield 271, 3, 6, 17, 0, 0), (.aload_n 0, 1, 0, 0, 0, 0), (.iload_n 1, 1, 0, 0, 0, 0), (.iload_n 2, 1, 0, 0, 0, 0), (.iload 5, 2, 0, 0, 0, 0), (.invokevirtual 237, 3, 189, 3, 0, 0), (.istore 5, 2, 0, 0, 0, 0), (.goto (-50), 3, 59, 0, 0, 0)]
def zb_217_112 : List zN := [(.iconst (-1), 1, 0, 0, (-1), 0), (.istore 5, 2, 0, 0, 0, 0), (.iconst 1, 1, 0, 0, 1, 0), (.istore 6, 2, 0, 0, 0, 0)]
def zb_217_118 : List zN := [(.iload 6, 2, 0, 0, 0, 0), (.iconst 1, 1, 0, 0, 1, 0), (.aload_n 0, 1, 0, 0, 0, 0), (.getfield 271, 3, 6, 17, 0, 0), (.ishl, 1, 0, 0, 0, 0), (.if_icmp .ge 91, 3, 217, 0, 0, 0), (.iconst 0, 1, 0, 0, 0, 0), (.istore 7, 2, 0, 0, 0, 0), (.iconst 0, 1, 0, 0, 0, 0), (.istore 8, 2, 0, 0, 0, 0)]
def zb_217_135 : List zN := [(.iload 8, 2, 0, 0, 0, 0), (.aload_n 0, 1, 0, 0, 0, 0), (.getfield 271, 3, 6, 17, 0, 0), (.if_icmp .ge 36, 3, 177, 0, 0, 0), (.iload 7, 2, 0, 0, 0, 0), (.iload 6, 2, 0, 0, 0, 0), (.iload 8, 2, 0, 0, 0, 0), (.ishr, 1, 0, 0, 0, 0), (.iconst 1, 1, 0, 0, 1, 0), (.iand, 1, 0, 0, 0, 0), (.iconst 1, 1, 0, 0, 1, 0), (.if_icmp .ne 13, 3, 167, 0, 0, 0), (.aload_n 0, 1, 0, 0, 0, 0), (.getfield 48, 3, 6, 16, 0, 0), (.iload 8, 2, 0, 0, 0, 0), (.iaload, 1, 0, 0, 0, 0), (.goto 4, 3, 168, 0, 0, 0)]
def zb_217_167 : List zN := [(.iconst 0, 1, 0, 0, 0, 0)]
def zb_217_168 : List zN := [(.iadd, 1, 0, 0, 0, 0), (.istore 7, 2, 0, 0, 0, 0), (.iinc 8 1, 3, 0, 0, 1, 0), (.goto (-39), 3, 135, 0, 0, 0)]
def zb_217_177 : List zN := [(.iload 7, 2, 0, 0, 0, 0), (.iload_n 3, 1, 0, 0, 0, 0), (.if_icmp .ne 27, 3, 207, 0, 0, 0), (.iload 5, 2, 0, 0, 0, 0), (.iconst (-1), 1, 0, 0, (-1), 0), (.if_icmp .eq 16, 3, 202, 0, 0, 0), (.iload 6, 2, 0, 0, 0, 0), (.invokestatic 277, 3, 218, 1, 0, 0), (.iload 5, 2, 0, 0, 0, 0), (.invokestatic 277, 3, 218, 1, 0, 0), (.if_icmp .ge 8, 3, 207, 0, 0, 0)]
def zb_217_202 : List zN := [(.iload 6, 2, 0, 0, 0, 0), (.goto 5, 3, 209, 0, 0, 0)]
def zb_217_207 : List zN := [(.iload 5, 2, 0, 0, 0, 0)]
def zb_217_209 : List zN := [(.istore 5, 2, 0, 0, 0, 0), (.iinc 6 1, 3, 0, 0, 1, 0), (.goto (-96), 3, 118, 0, 0, 0)]
def zb_217_217 : List zN := [(.iload 5, 2, 0, 0, 0, 0), (.iconst (-1), 1, 0, 0, (-1), 0), (.if_icmp .eq 8, 3, 228, 0, 0, 0), (.iload 4, 2, 0, 0, 0, 0), (.ifCond .ne 8, 3, 233, 0, 0, 0)]
def zb_217_228 : List zN := [(.iload 5, 2, 0, 0, 0, 0), (.goto 8, 3, 238, 0, 0, 0)]
def zb_217_233 : List zN := [(.iload 5, 2, 0, 0, 0, 0), (.invokestatic 277, 3, 218, 1, 0, 0)]
def zb_217_238 : List zN := [(.ireturn, 1, 0, 0, 0, 0)]
def zc_217 (pc : Nat) : List zN := if pc = 0 then zb_217_0 else if pc = 43 then zb_217_43 else if pc = 45 then zb_217_45 else if pc = 59 then zb_217_59 else if pc = 112 then zb_217_112 else if pc = 118 then zb_217_118 else if pc = 135 then zb_217_135 else if pc = 167 then zb_217_167 else if pc = 168 then zb_217_168 else if pc = 177 then zb_217_177 else if pc = 202 then zb_217_202 else if pc = 207 then zb_217_207 else if pc = 209 then zb_217_209 else if pc = 217 then zb_217_217 else if pc = 228 then zb_217_228 else if pc = 233 then zb_217_233 else if pc = 238 then zb_217_238 else []
def zb_218_0 : List zN := [(.iconst 0, 1, 0, 0, 0, 0), (.istore_n 1, 1, 0, 0, 0, 0), (.iload_n 0, 1, 0, 0, 0, 0), (.istore_n 2, 1, 0, 0, 0, 0)]
def zb_218_4 : List zN := [(.iload_n 2, 1, 0, 0, 0, 0), (.ifCond .eq 15, 3, 20, 0, 0, 0), (.iinc 1 1, 3, 0, 0, 1, 0), (.iload_n 2, 1, 0, 0, 0, 0), (.iload_n 2, 1, 0, 0, 0, 0), (.iconst 1, 1, 0, 0, 1, 0), (.isub, 1, 0, 0, 0, 0), (.iand, 1, 0, 0, 0, 0), (.istore_n 2, 1, 0, 0, 0, 0), (.goto (-13), 3, 4, 0, 0, 0)]
def zb_218_20 : List zN := [(.iload_n 1, 1, 0, 0, 0, 0), (.ireturn, 1, 0, 0, 0, 0)]
def zc_218 (pc : Nat) : List zN := if pc = 0 then zb_218_0 else if pc = 4 then zb_218_4 else if pc = 20 then zb_218_20 else []
def zb_219_0 : List zN := [(.aload_n 0, 1, 0, 0, 0, 0), (.iconst 0, 1, 0, 0, 0, 0), (.putfield 51, 3, 6, 0, 0, 0), (.iload_n 1, 1, 0, 0, 0, 0), (.i2l, 1, 0, 0, 0, 0), (.lconst 1, 1, 0, 0, 0, 1), (.ldc2_w 209, 3, 0, 0, 0, 90), (.invokestatic 79, 3, 130, 3, 0, 0), (.ifCond .eq 29, 3, 43, 0, 0, 0), (.aload_n 0, 1, 0, 0, 0, 0), (.getfield 13, 3, 6, 3, 0, 0), (.iconst 0, 1, 0, 0, 0, 0), (.iaload, 1, 0, 0, 0, 0), (.iload_n 1, 1, 0, 0, 0, 0), (.iadd, 1, 0, 0, 0, 0), (.sipush 9999, 3, 0, 0, 9999, 0), (.if_icmp .gt 15, 3, 43, 0, 0, 0), (.iload_n 2, 1, 0, 0, 0, 0), (.i2l, 1, 0, 0, 0, 0), (.lconst 0, 1, 0, 0, 0, 0), (.ldc2_w 268, 3, 0, 0, 0, 3), (.invokestatic 79, 3, 130, 3, 0, 0), (.ifCond .ne 5, 3, 45, 0, 0, 0)]
def zb_219_43 : List zN := [(.iconst (-1), 1, 0, 0, (-1), 0), (.ireturn, 1, 0, 0, 0, 0)]
def zb_219_45 : List zN := [(.aload_n 0, 1, 0, 0, 0, 0), (.aload_n 0, 1, 0, 0, 0, 0), (.getfield 39, 3, 6, 12, 0, 0), (.aload_n 0, 1, 0, 0, 0, 0), (.getfield 42, 3, 6, 13, 0, 0), (.iconst 0, 1, 0, 0, 0, 0), (.invokevirtual 61, 3, 131, 3, 0, 0), (.aload_n 0, 1, 0, 0, 0, 0), (.iload_n 1, 1, 0, 0, 0, 0), (.invokevirtual 246, 3, 196, 1, 0, 0), (.iload_n 2, 1, 0, 0, 0, 0), (.ifCond .ne 11, 3, 75, 0, 0, 0), (.aload_n 0, 1, 0, 0, 0, 0), (.iconst 2, 1, 0, 0, 2, 0), (.invokevirtual 280, 3, 220, 1, 0, 0), (.goto 33, 3, 105, 0, 0, 0)]
def zb_219_75 : List zN := [(.iload_n 2, 1, 0, 0, 0, 0), (.iconst 1, 1, 0, 0, 1, 0), (.if_icmp .ne 10, 3, 87, 0, 0, 0), (.aload_n 0, 1, 0, 0, 0, 0), (.getfield 240, 3, 6, 15, 0, 0), (.goto 21, 3, 105, 0, 0, 0)]
def zb_219_87 : List zN := [(.iload_n 2, 1, 0, 0, 0, 0), (.iconst 2, 1, 0, 0, 2, 0), (.if_icmp .ne 11, 3, 100, 0, 0, 0), (.aload_n 0, 1, 0, 0, 0, 0), (.iconst 0, 1, 0, 0, 0, 0), (.invokevirtual 213, 3, 175, 1, 0, 0), (.goto 8, 3, 105, 0, 0, 0)]
def zb_219_100 : List zN := [(.aload_n 0, 1, 0, 0, 0, 0), (.iconst 1, 1, 0, 0, 1, 0), (.invokevirtual 280, 3, 220, 1, 0, 0)]
def zb_219_105 : List zN := [(.istore_n 3, 1, 0, 0, 0, 0), (.aload_n 0, 1, 0, 0, 0, 0), (.aload_n 0, 1, 0, 0, 0, 0), (.getfield 39, 3, 6, 12, 0, 0), (.aload_n 0, 1, 0, 0, 0, 0), (.getfield 42, 3, 6, 13, 0, 0), (.iconst 0, 1, 0, 0, 0, 0), (.invokevirtual 65, 3, 127, 3, 0, 0), (.iload_n 3, 1, 0, 0, 0, 0), (.ireturn, 1, 0, 0, 0, 0)]
def zc_219 (pc : Nat) : List zN := if pc = 0 then zb_219_0 else if pc = 43 then zb_219_43 else if pc = 45 then zb_219_45 else if pc = 75 then zb_219_75 else if pc = 87 then zb_219_87 else if pc = 100 then zb_219_100 else if pc = 105 then zb_219_105 else []
def zb_220_0 : List zN := [(.iconst 0, 1, 0, 0, 0, 0), (.istore_n 2, 1, 0, 0, 0, 0), (.iconst 0, 1, 0, 0, 0, 0), (.istore_n 3, 1, 0, 0, 0, 0)]
def zb_220_4 : List zN := [(.iload_n 3, 1, 0, 0, 0, 0), (.aload_n 0, 1, 0, 0, 0, 0), (.getfield 13, 3, 6, 3, 0, 0), (.iconst 1, 1, 0, 0, 1, 0), (.iaload, 1, 0, 0, 0, 0), (.if_icmp .ge 23, 3, 34, 0, 0, 0), (.iload_n 2, 1, 0, 0, 0, 0), (.aload_n 0, 1, 0, 0, 0, 0), (.getfield 13, 3, 6, 3, 0, 0), (.iload_n 3, 1, 0, 0, 0, 0), (.invokestatic 95, 3, 135, 1, 0, 0), (.iload_n 1, 1, 0, 0, 0, 0), (.iadd, 1, 0, 0, 0, 0), (.iaload, 1, 0, 0, 0, 0), (.iadd, 1, 0, 0, 0, 0), (.istore_n 2, 1, 0, 0, 0, 0), (.iinc 3 1, 3, 0, 0, 1, 0), (.goto (-27), 3, 4, 0, 0, 0)]
def zb_220_34 : List zN := [(.iload_n 2, 1, 0, 0, 0, 0), (.ireturn, 1, 0, 0, 0, 0)]
def zc_220 (pc : Nat) : List zN := if pc = 0 then zb_220_0 else if pc = 4 then zb_220_4 else if pc = 34 then zb_220_34 else []
def zb_221_0 : List zN := [(.aload_n 0, 1, 0, 0, 0, 0), (.iconst 0, 1, 0, 0, 0, 0), (.putfield 51, 3, 6, 0, 0, 0), (.aload_n 0, 1, 0, 0, 0, 0), (.iload_n 1, 1, 0, 0, 0, 0), (.invokevirtual 222, 3, 177, 1, 0, 0), (.ifCond .eq 27, 3, 37, 0, 0, 0), (.iload_n 2, 1, 0, 0, 0, 0), (.i2l, 1, 0, 0, 0, 0), (.lconst 0, 1, 0, 0, 0, 0), (.aload_n 0, 1, 0, 0, 0, 0), (.iload_n 1, 1, 0, 0, 0, 0), (.invokevirtual 108, 3, 140, 1, 0, 0), (.i2l, 1, 0, 0, 0, 0), (.invokestatic 79, 3, 130, 3, 0, 0), (.ifCond .eq 12, 3, 37, 0, 0, 0), (.aload_n 0, 1, 0, 0, 0, 0), (.iload_n 1, 1, 0, 0, 0, 0), (.iload_n 3, 1, 0, 0, 0, 0), (.invokevirtual 225, 3, 179, 2, 0, 0), (.ifCond .ne 5, 3, 39, 0, 0, 0)]
def zb_221_37 : List zN := [(.iconst (-1), 1, 0, 0, (-1), 0), (.ireturn, 1, 0, 0, 0, 0)]
def zb_221_39 : List zN := [(.aload_n 0, 1, 0, 0, 0, 0), (.iload_n 1, 1, 0, 0, 0, 0), (.aload_n 0, 1, 0, 0, 0, 0), (.iload_n 1, 1, 0, 0, 0, 0), (.invokevirtual 108, 3, 140, 1, 0, 0), (.iload_n 2, 1, 0, 0, 0, 0), (.isub, 1, 0, 0, 0, 0), (.aload_n 0, 1, 0, 0, 0, 0), (.iload_n 1, 1, 0, 0, 0, 0), (.invokevirtual 231, 3, 182, 1, 0, 0), (.iload_n 3, 1, 0, 0, 0, 0), (.invokevirtual 151, 3, 185, 4, 0, 0), (.ireturn, 1, 0, 0, 0, 0)]
def zc_221 (pc : Nat) : List zN := if pc = 0 then zb_221_0 else if pc = 37 then zb_221_37 else if pc = 39 then zb_221_39 else []
def zb_222_0 : List zN := [(.aload_n 0, 1, 0, 0, 0, 0), (.iconst 0, 1, 0, 0, 0, 0), (.putfield 51, 3, 6, 0, 0, 0), (.aload_n 0, 1, 0, 0, 0, 0), (.iload_n 1, 1, 0, 0, 0, 0), (.invokevirtual 222, 3, 177, 1, 0, 0), (.ifCond .eq 13, 3, 23, 0, 0, 0), (.iload_n 2, 1, 0, 0, 0, 0), (.i2l, 1, 0, 0, 0, 0), (.lconst 0, 1, 0, 0, 0, 0), (.lconst 1, 1, 0, 0, 0, 1), (.invokestatic 79, 3, 130, 3, 0, 0), (.ifCond .ne 5, 3, 25, 0, 0, 0)]
def zb_222_23 : List zN := [(.iconst (-1), 1, 0, 0, (-1), 0), (.ireturn, 1, 0, 0, 0, 0)]
def zb_222_25 : List zN := [(.aload_n 0, 1, 0, 0, 0, 0), (.getfield 13, 3, 6, 3, 0, 0), (.iload_n 1, 1, 0, 0, 0, 0), (.invokestatic 85, 3, 138, 1, 0, 0), (.iconst 2, 1, 0, 0, 2, 0), (.iadd, 1, 0, 0, 0, 0), (.iaload, 1, 0, 0, 0, 0), (.istore_n 3, 1, 0, 0, 0, 0), (.aload_n 0, 1, 0, 0, 0, 0), (.getfield 13, 3, 6, 3, 0, 0), (.iload_n 1, 1, 0, 0, 0, 0), (.invokestatic 85, 3, 138, 1, 0, 0), (.bipush 7, 2, 0, 0, 7, 0), (.iadd, 1, 0, 0, 0, 0), (.iaload, 1, 0, 0, 0, 0), (.istore 4, 2, 0, 0, 0, 0), (.iload 4, 2, 0, 0, 0, 0), (.iconst 1, 1, 0, 0, 1, 0), (.iadd, 1, 0, 0, 0, 0), (.istore 5, 2, 0, 0, 0, 0)]
def zb_222_57 : List zN := [(.aload_n 0, 1, 0, 0, 0, 0), (.iload_n 1, 1, 0, 0, 0, 0), (.iload 5, 2, 0, 0, 0, 0), (.invokevirtual 225, 3, 179, 2, 0, 0), (.ifCond .eq 52, 3, 116, 0, 0, 0), (.aload_n 0, 1, 0, 0, 0, 0), (.iload_n 3, 1, 0, 0, 0, 0), (.iload 5, 2, 0, 0, 0, 0), (.invokevirtual 101, 3, 143, 2, 0, 0), (.aload_n 0, 1, 0, 0, 0, 0), (.iload_n 3, 1, 0, 0, 0, 0), (.iload 4, 2, 0, 0, 0, 0), (.invokevirtual 101, 3, 143, 2, 0, 0), (.isub, 1, 0, 0, 0, 0), (.istore 6, 2, 0, 0, 0, 0), (.iload_n 2, 1, 0, 0, 0, 0), (.ifCond .ne 11, 3, 96, 0, 0, 0), (.iload 6, 2, 0, 0, 0, 0), (.ifCond .ge 16, 3, 106, 0, 0, 0), (.goto 8, 3, 101, 0, 0, 0)]
def zb_222_96 : List zN := [(.iload 6, 2, 0, 0, 0, 0), (.ifCond .le 8, 3, 106, 0, 0, 0)]
def zb_222_101 : List zN := [(.iload 5, 2, 0, 0, 0, 0), (.goto 5, 3, 108, 0, 0, 0)]
def zb_222_106 : List zN := [(.iload 4, 2, 0, 0, 0, 0)]
def zb_222_108 : List zN := [(.istore 4, 2, 0, 0, 0, 0), (.iinc 5 1, 3, 0, 0, 1, 0), (.goto (-56), 3, 57, 0, 0, 0)]
def zb_222_116 : List zN := [(.iload 4, 2, 0, 0, 0, 0), (.ireturn, 1, 0, 0, 0, 0)]
def zc_222 (pc : Nat) : List zN := if pc = 0 then zb_222_0 else if pc = 23 then zb_222_23 else if pc = 25 then zb_222_25 else if pc = 57 then zb_222_57 else if pc = 96 then zb_222_96 else if pc = 101 then zb_222_101 else if pc = 106 then zb_222_106 else if pc = 108 then zb_222_108 else if pc = 116 then zb_222_116 else []
def zb_223_0 : List zN := [(.aload_n 0, 1, 0, 0, 0, 0), (.iconst 0, 1, 0, 0, 0, 0), (.putfield 51, 3, 6, 0, 0, 0), (.iload_n 1, 1, 0, 0, 0, 0), (.tableswitch 118 9 18 #[54, 60, 66, 71, 76, 83, 90, 97, 104, 111], 54, 124, 0, 0, 0)]
def zb_223_60 : List zN := [(.aload_n 0, 1, 0, 0, 0, 0), (.iconst 1, 1, 0, 0, 1, 0), (.invokevirtual 280, 3, 220, 1, 0, 0), (.ireturn, 1, 0, 0, 0, 0)]
def zb_223_66 : List zN := [(.aload_n 0, 1, 0, 0, 0, 0), (.iconst 2, 1, 0, 0, 2, 0), (.invokevirtual 280, 3, 220, 1, 0, 0), (.ireturn, 1, 0, 0, 0, 0)]
def zb_223_72 : List zN := [(.aload_n 0, 1, 0, 0, 0, 0), (.invokevirtual 283, 3, 224, 0, 0, 0), (.ireturn, 1, 0, 0, 0, 0)]
def zb_223_77 : List zN := [(.aload_n 0, 1, 0, 0, 0, 0), (.getfield 58, 3, 6, 8, 0, 0), (.ireturn, 1, 0, 0, 0, 0)]
def zb_223_82 : List zN := [(.aload_n 0, 1, 0, 0, 0, 0), (.getfield 13, 3, 6, 3, 0, 0), (.iconst 4, 1, 0, 0, 4, 0), (.iaload, 1, 0, 0, 0, 0), (.ireturn, 1, 0, 0, 0, 0)]
def zb_223_89 : List zN := [(.aload_n 0, 1, 0, 0, 0, 0), (.getfield 13, 3, 6, 3, 0, 0), (.iconst 5, 1, 0, 0, 5, 0), (.iaload, 1, 0, 0, 0, 0), (.ireturn, 1, 0, 0, 0, 0)]
def zb_223_96 : List zN := [(.aload_n 0, 1, 0, 0, 0, 0), (.getfield 7, 3, 6, 2, 0, 0), (.iconst 1, 1, 0, 0, 1, 0), (.iaload, 1, 0, 0, 0, 0), (.ireturn, 1, 0, 0, 0, 0)]
def zb_223_103 : List zN := [(.aload_n 0, 1, 0, 0, 0, 0), (.getfield 7, 3, 6, 2, 0, 0), (.iconst 2, 1, 0, 0, 2, 0), (.iaload, 1, 0, 0, 0, 0), (.ireturn, 1, 0, 0, 0, 0)]
def zb_223_110 : List zN := [(.aload_n 0, 1, 0, 0, 0, 0), (.getfield 7, 3, 6, 2, 0, 0), (.iconst 4, 1, 0, 0, 4, 0), (.iaload, 1, 0, 0, 0, 0), (.ireturn, 1, 0, 0, 0, 0)]
def zb_223_117 : List zN := [(.aload_n 0, 1, 0, 0, 0, 0), (.getfield 7, 3, 6, 2, 0, 0), (.iconst 5, 1, 0, 0, 5, 0), (.iaload, 1, 0, 0, 0, 0), (.ireturn, 1, 0, 0, 0, 0)]
def zb_223_124 : List zN := [(.iload_n 1, 1, 0, 0, 0, 0), (.i2l, 1, 0, 0, 0, 0), (.lconst 0, 1, 0, 0, 0, 0), (.ldc2_w 268, 3, 0, 0, 0, 3), (.invokestatic 79, 3, 130, 3, 0, 0), (.ifCond .eq 12, 3, 145, 0, 0, 0), (.aload_n 0, 1, 0, 0, 0, 0), (.getfield 13, 3, 6, 3, 0, 0), (.iload_n 1, 1, 0, 0, 0, 0), (.iaload, 1, 0, 0, 0, 0), (.goto 28, 3, 170, 0, 0, 0)]
def zb_223_145 : List zN := [(.iload_n 1, 1, 0, 0, 0, 0), (.i2l, 1, 0, 0, 0, 0), (.ldc2_w 83, 3, 0, 0, 0, 4), (.ldc2_w 255, 3, 0, 0, 0, 8), (.invokestatic 79, 3, 130, 3, 0, 0), (.ifCond .eq 13, 3, 169, 0, 0, 0), (.aload_n 0, 1, 0, 0, 0, 0), (.iload_n 1, 1, 0, 0, 0, 0), (.iconst 4, 1, 0, 0, 4, 0), (.isub, 1, 0, 0, 0, 0), (.invokevirtual 213, 3, 175, 1, 0, 0), (.goto 4, 3, 170, 0, 0, 0)]
def zb_223_169 : List zN := [(.iconst (-1), 1, 0, 0, (-1), 0)]
def zb_223_170 : List zN := [(.ireturn, 1, 0, 0, 0, 0)]
def zc_223 (pc : Nat) : List zN := if pc = 0 then zb_223_0 else if pc = 60 then zb_223_60 else if pc = 66 then zb_223_66 else if pc = 72 then zb_223_72 else if pc = 77 then zb_223_77 else if pc = 82 then zb_223_82 else if pc = 89 then zb_223_89 else if pc = 96 then zb_223_96 else if pc = 103 then zb_223_103 else if pc = 110 then zb_223_110 else if pc = 117 then zb_223_117 else if pc = 124 then zb_223_124 else if pc = 145 then zb_223_145 else if pc = 169 then zb_223_169 else if pc = 170 then zb_223_170 else []
def zb_224_0 : List zN := [(.iconst 0, 1, 0, 0, 0, 0), (.istore_n 1, 1, 0, 0, 0, 0), (.iconst 0, 1, 0, 0, 0, 0), (.istore_n 2, 1, 0, 0, 0, 0)]
def zb_224_4 : List zN := [(.iload_n 2, 1, 0, 0, 0, 0), (.aload_n 0, 1, 0, 0, 0, 0), (.getfield 13, 3, 6, 3, 0, 0), (.iconst 2, 1, 0, 0, 2, 0), (.iaload, 1, 0, 0, 0, 0), (.if_icmp .ge 36, 3, 47, 0, 0, 0), (.iconst 0, 1, 0, 0, 0, 0), (.istore_n 3, 1, 0, 0, 0, 0)]
def zb_224_16 : List zN := [(.iload_n 3, 1, 0, 0, 0, 0), (.iconst 5, 1, 0, 0, 5, 0), (.if_icmp .ge 23, 3, 41, 0, 0, 0), (.iload_n 1, 1, 0, 0, 0, 0), (.aload_n 0, 1, 0, 0, 0, 0), (.getfield 13, 3, 6, 3, 0, 0), (.iload_n 2, 1, 0, 0, 0, 0), (.invokestatic 115, 3, 147, 1, 0, 0), (.iload_n 3, 1, 0, 0, 0, 0), (.iadd, 1, 0, 0, 0, 0), (.iaload, 1, 0, 0, 0, 0), (.iadd, 1, 0, 0, 0, 0), (.istore_n 1, 1, 0, 0, 0, 0), (.iinc 3 1, 3, 0, 0, 1, 0), (.goto (-22), 3, 16, 0, 0, 0)]
def zb_224_41 : List zN := [(.iinc 2 1, 3, 0, 0, 1, 0), (.goto (-40), 3, 4, 0, 0, 0)]
def zb_224_47 : List zN := [(.iload_n 1, 1, 0, 0, 0, 0), (.ireturn, 1, 0, 0, 0, 0)]
def zc_224 (pc : Nat) : List zN := if pc = 0 then zb_224_0 else if pc = 4 then zb_224_4 else if pc = 16 then zb_224_16 else if pc = 41 then zb_224_41 else if pc = 47 then zb_224_47 else []
def zb_225_0 : List zN := [(.aload_n 0, 1, 0, 0, 0, 0), (.iconst 0, 1, 0, 0, 0, 0), (.putfield 51, 3, 6, 0, 0, 0), (.aload_n 0, 1, 0, 0, 0, 0), (.getfield 55, 3, 6, 1, 0, 0), (.ireturn, 1, 0, 0, 0, 0)]
def zc_225 (pc : Nat) : List zN := if pc = 0 then zb_225_0 else []
def zb_226_0 : List zN := [(.iload_n 0, 1, 0, 0, 0, 0), (.iload_n 1, 1, 0, 0, 0, 0), (.if_icmp .lt 7, 3, 9, 0, 0, 0), (.iload_n 0, 1, 0, 0, 0, 0), (.goto 4, 3, 10, 0, 0, 0)]
def zb_226_9 : List zN := [(.iload_n 1, 1, 0, 0, 0, 0)]
def zb_226_10 : List zN := [(.ireturn, 1, 0, 0, 0, 0)]
def zc_226 (pc : Nat) : List zN := if pc = 0 then zb_226_0 else if pc = 9 then zb_226_9 else if pc = 10 then zb_226_10 else []
def zb_227_0 : List zN := [(.iload_n 0, 1, 0, 0, 0, 0), (.iload_n 1, 1, 0, 0, 0, 0), (.if_icmp .gt 7, 3, 9, 0, 0, 0), (.iload_n 0, 1, 0, 0, 0, 0), (.goto 4, 3, 10, 0, 0, 0)]
def zb_227_9 : List zN := [(.iload_n 1, 1, 0, 0, 0, 0)]
def zb_227_10 : List zN := [(.ireturn, 1, 0, 0, 0, 0)]
def zc_227 (pc : Nat) : List zN := if pc = 0 then zb_227_0 else if pc = 9 then zb_227_9 else if pc = 10 then zb_227_10 else []
def zb_228_0 : List zN := [(.iload_n 0, 1, 0, 0, 0, 0), (.iload_n 0, 1, 0, 0, 0, 0), (.iconst 1, 1, 0, 0, 1, 0), (.iushr, 1, 0, 0, 0, 0), (.ldc_w 265, 3, 0, 0, 1431655765, 0), (.iand, 1, 0, 0, 0, 0), (.isub, 1, 0, 0, 0, 0), (.istore_n 0, 1, 0, 0, 0, 0), (.iload_n 0, 1, 0, 0, 0, 0), (.ldc_w 266, 3, 0, 0, 858993459, 0), (.iand, 1, 0, 0, 0, 0), (.iload_n 0, 1, 0, 0, 0, 0), (.iconst 2, 1, 0, 0, 2, 0), (.iushr, 1, 0, 0, 0, 0), (.ldc_w 266, 3, 0, 0, 858993459, 0), (.iand, 1, 0, 0, 0, 0), (.iadd, 1, 0, 0, 0, 0), (.istore_n 0, 1, 0, 0, 0, 0), (.iload_n 0, 1, 0, 0, 0, 0), (.iload_n 0, 1, 0, 0, 0, 0), (.iconst 4, 1, 0, 0, 4, 0), (.iushr, 1, 0, 0, 0, 0), (.iadd, 1, 0, 0, 0, 0), (.ldc_w 267, 3, 0, 0, 252645135, 0), (.iand, 1, 0, 0, 0, 0), (.istore_n 0, 1, 0, 0, 0, 0), (.iload_n 0, 1, 0, 0, 0, 0), (.iload_n 0, 1, 0, 0, 0, 0), (.bipush 8, 2, 0, 0, 8, 0), (.iushr, 1, 0, 0, 0, 0), (.iadd, 1, 0, 0, 0, 0), (.istore_n 0, 1, 0, 0, 0, 0), (.iload_n 0, 1, 0, 0, 0, 0), (.iload_n 0, 1, 0, 0, 0, 0), (.bipush 16, 2, 0, 0, 16, 0), (.iushr, 1, 0, 0, 0, 0), (.iadd, 1, 0, 0, 0, 0), (.istore_n 0, 1, 0, 0, 0, 0), (.iload_n 0, 1, 0, 0, 0, 0), (.bipush 63, 2, 0, 0, 63, 0), (.iand, 1, 0, 0, 0, 0), (.ireturn, 1, 0, 0, 0, 0)]
def zc_228 (pc : Nat) : List zN := if pc = 0 then zb_228_0 else []
def z_code (j : Nat) : Nat → List zN := ([zc_0, zc_1, zc_2, zc_3, zc_4, zc_5, zc_6, zc_7, zc_8, zc_9, zc_10, zc_11, zc_12, zc_13, zc_14, zc_15, zc_16, zc_17, zc_18, zc_19, zc_20, zc_21, zc_22, zc_23, zc_24, zc_25, zc_26, zc_27, zc_28, zc_29, zc_30, zc_31, zc_32, zc_33, zc_34, zc_35, zc_36, zc_37, zc_38, zc_39, zc_40, zc_41, zc_42, zc_43, zc_44, zc_45, zc_46, zc_47, zc_48, zc_49, zc_50, zc_51, zc_52, zc_53, zc_54, zc_55, zc_56, zc_57, zc_58, zc_59, zc_60, zc_61, zc_62, zc_63, zc_64, zc_65, zc_66, zc_67, zc_68, zc_69, zc_70, zc_71, zc_72, zc_73, zc_74, zc_75, zc_76, zc_77, zc_78, zc_79, zc_80, zc_81, zc_82, zc_83, zc_84, zc_85, zc_86, zc_87, zc_88, zc_89, zc_90, zc_91, zc_92, zc_93, zc_94, zc_95, zc_96, zc_97, zc_98, zc_99, zc_100, zc_101, zc_102, zc_103, zc_104, zc_105, zc_106, zc_107, zc_108, zc_109, zc_110, zc_111, zc_112, zc_113, zc_114, zc_115, zc_116, zc_117, zc_118, zc_119, zc_120, zc_121, zc_122, zc_123, zc_124, zc_125, zc_126, zc_127, zc_128, zc_129, zc_130, zc_131, zc_132, zc_133, zc_134, zc_135, zc_136, zc_137, zc_138, zc_139, zc_140, zc_141, zc_142, zc_143, zc_144, zc_145, zc_146, zc_147, zc_148, zc_149, zc_150, zc_151, zc_152, zc_153, zc_154, zc_155, zc_156, zc_157, zc_158, zc_159, zc_160, zc_161, zc_162, zc_163, zc_164, zc_165, zc_166, zc_167, zc_168, zc_169, zc_170, zc_171, zc_172, zc_173, zc_174, zc_175, zc_176, zc_177, zc_178, zc_179, zc_180, zc_181, zc_182, zc_183, zc_184, zc_185, zc_186, zc_187, zc_188, zc_189, zc_190, zc_191, zc_192, zc_193, zc_194, zc_195, zc_196, zc_197, zc_198, zc_199, zc_200, zc_201, zc_202, zc_203, zc_204, zc_205, zc_206, zc_207, zc_208, zc_209, zc_210, zc_211, zc_212, zc_213, zc_214, zc_215, zc_216, zc_217, zc_218, zc_219, zc_220, zc_221, zc_222, zc_223, zc_224, zc_225, zc_226, zc_227, zc_228] : List (Nat → List zN)).getD j (fun _ => [])
def z_pcs (j : Nat) : List Nat := ([[18, 220, 243, 276, 309, 352, 405, 448, 491, 534, 567, 642, 665, 688, 689, 720, 721, 734, 777, 820, 863, 906, 939, 972, 995, 1008, 1031, 1054, 1087, 1121, 1154, 1187, 1221, 1254, 1287, 1330, 1363, 1406, 1449, 1482, 1515, 1538, 1571, 1624, 1657, 1700, 1733, 1756, 1769, 1775], [0, 50, 79, 81, 110, 112, 138, 140, 169], [0], [0, 7, 71, 80, 86], [0, 7, 41, 47], [0, 10, 23, 63], [0, 24, 25], [0, 38, 72], [0, 4, 35], [0, 16, 93], [0, 16, 17], [0, 52, 53], [0, 13, 17, 18], [0, 14, 15], [0], [0, 16, 17], [0, 14, 53, 59], [0, 30, 43, 50], [0, 16, 92], [0, 16, 17], [0, 4, 28, 34], [0, 21, 22], [0], [0], [0], [0], [0], [0, 16, 104], [0, 5, 43, 49], [0, 28, 29], [0, 17, 82, 98], [0, 7, 44, 50], [0], [0, 17, 83], [0, 5, 57], [0, 20, 21], [0, 54, 55], [0, 4, 22], [0, 14, 58, 64], [0, 7, 42, 48], [0, 7, 47, 53], [0, 15, 16], [0, 4, 30], [0, 4, 30], [0, 4, 14, 39, 45], [0], [0], [0], [0], [0], [0, 5, 46, 57, 64], [0, 2, 26, 33, 51, 56], [0, 10, 15, 54], [0, 2, 22, 28], [0, 4, 35], [0], [0, 16, 89, 95], [0, 13, 48, 49, 75, 87, 105, 111], [0], [0], [0], [0, 4, 24], [0, 79, 99], [0, 28, 29], [0], [0, 3, 23], [0, 35, 60, 66], [0, 10, 12], [0, 2, 22, 28], [0, 17, 18], [0, 16, 34], [0, 10, 14, 15], [0, 23, 42, 61, 71], [0, 25, 35], [0, 14, 15], [0], [0, 16, 34, 64], [0, 16, 34, 59], [0, 19, 38], [0, 20, 38], [0, 17, 23, 41, 69], [0, 13, 14], [0, 27, 30, 36, 42, 79, 92], [0, 29, 35, 56, 60, 61, 81, 88, 125], [0], [0, 20, 21, 27, 33, 62, 78], [0, 41, 47, 69, 76, 104, 111, 130], [0, 18, 63, 70], [0, 27, 33, 51, 91, 98, 126, 138], [0, 24, 51, 52], [0, 17, 23, 41, 71, 78], [0, 17, 39, 46, 83, 90, 109], [0, 17, 23, 41, 100, 107], [0, 33, 40, 96, 103], [0, 16, 34, 87, 94], [0, 22, 29, 54], [0, 16, 38], [0, 14, 56], [0, 15], [0, 15, 33], [0, 13, 56, 61, 66, 71, 76], [0, 9, 10, 35, 39, 45, 67, 93, 98, 101, 107], [0, 13, 37, 51, 77], [0, 13, 100, 105, 110, 115, 120, 125, 130, 135, 140, 145, 150, 155, 160, 165, 174, 179], [0, 20, 24, 45, 49], [0, 22, 24], [0, 18, 20], [0, 29, 31], [0, 17, 33, 46, 61, 69], [0, 28, 30, 69], [0, 27, 29, 77, 88], [0, 13, 27, 103, 107, 138, 139, 142, 148, 180, 182, 185, 188, 191], [0, 21, 23], [0, 21, 23, 79, 99, 100], [0, 20, 22, 36, 122, 128, 157, 165], [0, 11, 51, 57], [0, 5, 31, 47], [0, 5, 31, 37], [0, 38, 40, 59, 99, 115, 125, 130], [0, 8, 50, 53, 59], [0, 34, 36, 76, 81, 84, 90], [0, 13, 59, 61], [0, 20, 22, 42, 75, 76], [0, 92, 100, 108, 116, 124, 135, 143, 151, 159, 164, 172, 180, 185, 190, 195, 200], [0], [0, 19], [0], [0, 3, 34, 37, 66], [0], [0, 21], [0, 17, 18], [0, 3, 34, 37, 66], [0, 21, 37], [0, 23, 42], [0, 11, 40, 42, 70, 72, 98, 108], [0], [0], [0, 4, 12, 101, 115, 116, 117, 123, 129], [0], [0, 26, 35], [0], [0, 17, 80, 82, 90], [0], [0, 14, 76, 82], [0, 9, 10], [0, 23, 29, 61, 72, 123, 129], [0, 4, 35, 41, 49], [0], [0], [0, 9, 10], [0, 23, 38, 73, 80], [0], [0], [0, 23, 38, 62], [0, 21, 43], [0, 15, 25, 29, 30, 50, 63, 76, 80, 81], [0, 14, 29, 39, 41, 75, 81], [0, 22, 37], [0], [0, 24, 30, 45, 74], [0], [0, 35, 38, 44, 50], [0, 36, 42, 65, 72, 84, 121, 123, 131, 176, 177, 209, 256, 268], [0, 4, 50, 54, 55, 62], [0], [0, 24, 37, 41, 42], [0, 4, 32], [0, 11, 92, 112, 125], [0, 22, 59, 65, 68, 120, 121, 139, 145], [0], [0, 2, 41, 43, 81], [0, 28, 29, 35, 41], [0, 51, 57, 73, 80, 101, 108, 130, 146, 170], [0, 20, 76, 83], [0], [0, 4, 28, 29, 37], [0, 34, 40, 55, 97, 101, 102, 123, 130, 158, 174, 186, 190], [0, 21, 22], [0], [0], [0], [0], [0], [0], [0], [0], [0, 10, 102], [0], [0, 24, 30, 45, 57, 87, 111, 118, 139, 210, 227], [0, 6, 63, 67, 68, 109, 113, 114, 147, 151, 157], [0, 23, 39, 46, 110, 117, 139, 155, 191, 192, 199], [0, 24, 30, 45, 85, 92, 120, 152, 163, 185, 191], [0, 29, 36, 84, 91], [0, 23, 38, 88, 95, 135], [0, 21, 28, 63, 70], [0, 23, 44], [0, 7, 22], [0, 12, 83, 89], [0, 15, 41, 54, 55], [0, 18, 28, 32, 37, 60, 74, 75, 83], [0, 15, 43, 56, 86, 87], [0, 15, 36, 37, 116, 126, 135, 144, 153, 162, 171, 180, 198, 202, 211, 212, 222, 228, 238, 248, 258, 276, 284, 285, 286, 296], [0, 39, 42], [0, 38, 39], [0, 33, 34], [0, 46, 47], [0, 11, 23, 36, 49, 50], [0, 7, 17, 64, 65, 69, 75, 81], [0, 10, 34], [0, 7, 52, 53, 57, 63], [0, 32, 34, 66, 80], [0, 34, 36, 50, 91, 96, 98, 112, 114, 122, 131, 133], [0, 25, 27, 41, 112, 117, 119, 156, 157, 160, 166, 174, 184, 194, 196], [0, 25, 27], [0, 24, 26, 94, 98, 99, 110, 128, 129], [0, 23, 25, 32, 100, 106, 114, 131, 163, 164, 173, 197, 203, 211, 213], [0, 45, 46], [0, 43, 45, 59, 112, 118, 135, 167, 168, 177, 202, 207, 209, 217, 228, 233, 238], [0, 4, 20], [0, 43, 45, 75, 87, 100, 105], [0, 4, 34], [0, 37, 39], [0, 23, 25, 57, 96, 101, 106, 108, 116], [0, 60, 66, 72, 77, 82, 89, 96, 103, 110, 117, 124, 145, 169, 170], [0, 4, 16, 41, 47], [0], [0, 9, 10], [0, 9, 10], [0]] : List (List Nat)).getD j []
theorem zd_0_18 : z_code 0 18 = zb_0_18 := rfl
theorem zd_0_220 : z_code 0 220 = zb_0_220 := rfl
theorem zd_0_243 : z_code 0 243 = zb_0_243 := rfl
theorem zd_0_276 : z_code 0 276 = zb_0_276 := rfl
theorem zd_0_309 : z_code 0 309 = zb_0_309 := rfl
theorem zd_0_352 : z_code 0 352 = zb_0_352 := rfl
theorem zd_0_405 : z_code 0 405 = zb_0_405 := rfl
theorem zd_0_448 : z_code 0 448 = zb_0_448 := rfl
theorem zd_0_491 : z_code 0 491 = zb_0_491 := rfl
theorem zd_0_534 : z_code 0 534 = zb_0_534 := rfl
theorem zd_0_567 : z_code 0 567 = zb_0_567 := rfl
theorem zd_0_642 : z_code 0 642 = zb_0_642 := rfl
theorem zd_0_665 : z_code 0 665 = zb_0_665 := rfl
theorem zd_0_688 : z_code 0 688 = zb_0_688 := rfl
theorem zd_0_689 : z_code 0 689 = zb_0_689 := rfl
theorem zd_0_720 : z_code 0 720 = zb_0_720 := rfl
theorem zd_0_721 : z_code 0 721 = zb_0_721 := rfl
theorem zd_0_734 : z_code 0 734 = zb_0_734 := rfl
theorem zd_0_777 : z_code 0 777 = zb_0_777 := rfl
theorem zd_0_820 : z_code 0 820 = zb_0_820 := rfl
theorem zd_0_863 : z_code 0 863 = zb_0_863 := rfl
theorem zd_0_906 : z_code 0 906 = zb_0_906 := rfl
theorem zd_0_939 : z_code 0 939 = zb_0_939 := rfl
theorem zd_0_972 : z_code 0 972 = zb_0_972 := rfl
theorem zd_0_995 : z_code 0 995 = zb_0_995 := rfl
theorem zd_0_1008 : z_code 0 1008 = zb_0_1008 := rfl
theorem zd_0_1031 : z_code 0 1031 = zb_0_1031 := rfl
theorem zd_0_1054 : z_code 0 1054 = zb_0_1054 := rfl
theorem zd_0_1087 : z_code 0 1087 = zb_0_1087 := rfl
theorem zd_0_1121 : z_code 0 1121 = zb_0_1121 := rfl
theorem zd_0_1154 : z_code 0 1154 = zb_0_1154 := rfl
theorem zd_0_1187 : z_code 0 1187 = zb_0_1187 := rfl
theorem zd_0_1221 : z_code 0 1221 = zb_0_1221 := rfl
theorem zd_0_1254 : z_code 0 1254 = zb_0_1254 := rfl
theorem zd_0_1287 : z_code 0 1287 = zb_0_1287 := rfl
theorem zd_0_1330 : z_code 0 1330 = zb_0_1330 := rfl
theorem zd_0_1363 : z_code 0 1363 = zb_0_1363 := rfl
theorem zd_0_1406 : z_code 0 1406 = zb_0_1406 := rfl
theorem zd_0_1449 : z_code 0 1449 = zb_0_1449 := rfl
theorem zd_0_1482 : z_code 0 1482 = zb_0_1482 := rfl
theorem zd_0_1515 : z_code 0 1515 = zb_0_1515 := rfl
theorem zd_0_1538 : z_code 0 1538 = zb_0_1538 := rfl
theorem zd_0_1571 : z_code 0 1571 = zb_0_1571 := rfl
theorem zd_0_1624 : z_code 0 1624 = zb_0_1624 := rfl
theorem zd_0_1657 : z_code 0 1657 = zb_0_1657 := rfl
theorem zd_0_1700 : z_code 0 1700 = zb_0_1700 := rfl
theorem zd_0_1733 : z_code 0 1733 = zb_0_1733 := rfl
theorem zd_0_1756 : z_code 0 1756 = zb_0_1756 := rfl
theorem zd_0_1769 : z_code 0 1769 = zb_0_1769 := rfl
theorem zd_0_1775 : z_code 0 1775 = zb_0_1775 := rfl
theorem zd_1_0 : z_code 1 0 = zb_1_0 := rfl
theorem zd_1_50 : z_code 1 50 = zb_1_50 := rfl
theorem zd_1_79 : z_code 1 79 = zb_1_79 := rfl
theorem zd_1_81 : z_code 1 81 = zb_1_81 := rfl
theorem zd_1_110 : z_code 1 110 = zb_1_110 := rfl
theorem zd_1_112 : z_code 1 112 = zb_1_112 := rfl
theorem zd_1_138 : z_code 1 138 = zb_1_138 := rfl
theorem zd_1_140 : z_code 1 140 = zb_1_140 := rfl
theorem zd_1_169 : z_code 1 169 = zb_1_169 := rfl
theorem zd_2_0 : z_code 2 0 = zb_2_0 := rfl
theorem zd_3_0 : z_code 3 0 = zb_3_0 := rfl
theorem zd_3_7 : z_code 3 7 = zb_3_7 := rfl
theorem zd_3_71 : z_code 3 71 = zb_3_71 := rfl
theorem zd_3_80 : z_code 3 80 = zb_3_80 := rfl
theorem zd_3_86 : z_code 3 86 = zb_3_86 := rfl
theorem zd_4_0 : z_code 4 0 = zb_4_0 := rfl
theorem zd_4_7 : z_code 4 7 = zb_4_7 := rfl
theorem zd_4_41 : z_code 4 41 = zb_4_41 := rfl
theorem zd_4_47 : z_code 4 47 = zb_4_47 := rfl
theorem zd_5_0 : z_code 5 0 = zb_5_0 := rfl
theorem zd_5_10 : z_code 5 10 = zb_5_10 := rfl
theorem zd_5_23 : z_code 5 23 = zb_5_23 := rfl
theorem zd_5_63 : z_code 5 63 = zb_5_63 := rfl
theorem zd_6_0 : z_code 6 0 = zb_6_0 := rfl
theorem zd_6_24 : z_code 6 24 = zb_6_24 := rfl
theorem zd_6_25 : z_code 6 25 = zb_6_25 := rfl
theorem zd_7_0 : z_code 7 0 = zb_7_0 := rfl
theorem zd_7_38 : z_code 7 38 = zb_7_38 := rfl
theorem zd_7_72 : z_code 7 72 = zb_7_72 := rfl
theorem zd_8_0 : z_code 8 0 = zb_8_0 := rfl
theorem zd_8_4 : z_code 8 4 = zb_8_4 := rfl
theorem zd_8_35 : z_code 8 35 = zb_8_35 := rfl
theorem zd_9_0 : z_code 9 0 = zb_9_0 := rfl
theorem zd_9_16 : z_code 9 16 = zb_9_16 := rfl
theorem zd_9_93 : z_code 9 93 = zb_9_93 := rfl
theorem zd_10_0 : z_code 10 0 = zb_10_0 := rfl
theorem zd_10_16 : z_code 10 16 = zb_10_16 := rfl
theorem zd_10_17 : z_code 10 17 = zb_10_17 := rfl
theorem zd_11_0 : z_code 11 0 = zb_11_0 := rfl
theorem zd_11_52 : z_code 11 52 = zb_11_52 := rfl
theorem zd_11_53 : z_code 11 53 = zb_11_53 := rfl
theorem zd_12_0 : z_code 12 0 = zb_12_0 := rfl
theorem zd_12_13 : z_code 12 13 = zb_12_13 := rfl
theorem zd_12_17 : z_code 12 17 = zb_12_17 := rfl
theorem zd_12_18 : z_code 12 18 = zb_12_18 := rfl
theorem zd_13_0 : z_code 13 0 = zb_13_0 := rfl
theorem zd_13_14 : z_code 13 14 = zb_13_14 := rfl
theorem zd_13_15 : z_code 13 15 = zb_13_15 := rfl
theorem zd_14_0 : z_code 14 0 = zb_14_0 := rfl
theorem zd_15_0 : z_code 15 0 = zb_15_0 := rfl
theorem zd_15_16 : z_code 15 16 = zb_15_16 := rfl
theorem zd_15_17 : z_code 15 17 = zb_15_17 := rfl
theorem zd_16_0 : z_code 16 0 = zb_16_0 := rfl
theorem zd_16_14 : z_code 16 14 = zb_16_14 := rfl
theorem zd_16_53 : z_code 16 53 = zb_16_53 := rfl
theorem zd_16_59 : z_code 16 59 = zb_16_59 := rfl
theorem zd_17_0 : z_code 17 0 = zb_17_0 := rfl
theorem zd_17_30 : z_code 17 30 = zb_17_30 := rfl
theorem zd_17_43 : z_code 17 43 = zb_17_43 := rfl
theorem zd_17_50 : z_code 17 50 = zb_17_50 := rfl
theorem zd_18_0 : z_code 18 0 = zb_18_0 := rfl
theorem zd_18_16 : z_code 18 16 = zb_18_16 := rfl
theorem zd_18_92 : z_code 18 92 = zb_18_92 := rfl
theorem zd_19_0 : z_code 19 0 = zb_19_0 := rfl
theorem zd_19_16 : z_code 19 16 = zb_19_16 := rfl
theorem zd_19_17 : z_code 19 17 = zb_19_17 := rfl
theorem zd_20_0 : z_code 20 0 = zb_20_0 := rfl
theorem zd_20_4 : z_code 20 4 = zb_20_4 := rfl
theorem zd_20_28 : z_code 20 28 = zb_20_28 := rfl
theorem zd_20_34 : z_code 20 34 = zb_20_34 := rfl
theorem zd_21_0 : z_code 21 0 = zb_21_0 := rfl
theorem zd_21_21 : z_code 21 21 = zb_21_21 := rfl
theorem zd_21_22 : z_code 21 22 = zb_21_22 := rfl
theorem zd_22_0 : z_code 22 0 = zb_22_0 := rfl
theorem zd_23_0 : z_code 23 0 = zb_23_0 := rfl
theorem zd_24_0 : z_code 24 0 = zb_24_0 := rfl
theorem zd_25_0 : z_code 25 0 = zb_25_0 := rfl
theorem zd_26_0 : z_code 26 0 = zb_26_0 := rfl
theorem zd_27_0 : z_code 27 0 = zb_27_0 := rfl
theorem zd_27_16 : z_code 27 16 = zb_27_16 := rfl
theorem zd_27_104 : z_code 27 104 = zb_27_104 := rfl
theorem zd_28_0 : z_code 28 0 = zb_28_0 := rfl
theorem zd_28_5 : z_code 28 5 = zb_28_5 := rfl
theorem zd_28_43 : z_code 28 43 = zb_28_43 := rfl
theorem zd_28_49 : z_code 28 49 = zb_28_49 := rfl
theorem zd_29_0 : z_code 29 0 = zb_29_0 := rfl
theorem zd_29_28 : z_code 29 28 = zb_29_28 := rfl
theorem zd_29_29 : z_code 29 29 = zb_29_29 := rfl
theorem zd_30_0 : z_code 30 0 = zb_30_0 := rfl
theorem zd_30_17 : z_code 30 17 = zb_30_17 := rfl
theorem zd_30_82 : z_code 30 82 = zb_30_82 := rfl
theorem zd_30_98 : z_code 30 98 = zb_30_98 := rfl
theorem zd_31_0 : z_code 31 0 = zb_31_0 := rfl
theorem zd_31_7 : z_code 31 7 = zb_31_7 := rfl
theorem zd_31_44 : z_code 31 44 = zb_31_44 := rfl
theorem zd_31_50 : z_code 31 50 = zb_31_50 := rfl
theorem zd_32_0 : z_code 32 0 = zb_32_0 := rfl
theorem zd_33_0 : z_code 33 0 = zb_33_0 := rfl
theorem zd_33_17 : z_code 33 17 = zb_33_17 := rfl
theorem zd_33_83 : z_code 33 83 = zb_33_83 := rfl
theorem zd_34_0 : z_code 34 0 = zb_34_0 := rfl
theorem zd_34_5 : z_code 34 5 = zb_34_5 := rfl
theorem zd_34_57 : z_code 34 57 = zb_34_57 := rfl
theorem zd_35_0 : z_code 35 0 = zb_35_0 := rfl
theorem zd_35_20 : z_code 35 20 = zb_35_20 := rfl
theorem zd_35_21 : z_code 35 21 = zb_35_21 := rfl
theorem zd_36_0 : z_code 36 0 = zb_36_0 := rfl
theorem zd_36_54 : z_code 36 54 = zb_36_54 := rfl
theorem zd_36_55 : z_code 36 55 = zb_36_55 := rfl
theorem zd_37_0 : z_code 37 0 = zb_37_0 := rfl
theorem zd_37_4 : z_code 37 4 = zb_37_4 := rfl
theorem zd_37_22 : z_code 37 22 = zb_37_22 := rfl
theorem zd_38_0 : z_code 38 0 = zb_38_0 := rfl
theorem zd_38_14 : z_code 38 14 = zb_38_14 := rfl
theorem zd_38_58 : z_code 38 58 = zb_38_58 := rfl
theorem zd_38_64 : z_code 38 64 = zb_38_64 := rfl
theorem zd_39_0 : z_code 39 0 = zb_39_0 := rfl
theorem zd_39_7 : z_code 39 7 = zb_39_7 := rfl
theorem zd_39_42 : z_code 39 42 = zb_39_42 := rfl
theorem zd_39_48 : z_code 39 48 = zb_39_48 := rfl
theorem zd_40_0 : z_code 40 0 = zb_40_0 := rfl
theorem zd_40_7 : z_code 40 7 = zb_40_7 := rfl
theorem zd_40_47 : z_code 40 47 = zb_40_47 := rfl
theorem zd_40_53 : z_code 40 53 = zb_40_53 := rfl
theorem zd_41_0 : z_code 41 0 = zb_41_0 := rfl
theorem zd_41_15 : z_code 41 15 = zb_41_15 := rfl
theorem zd_41_16 : z_code 41 16 = zb_41_16 := rfl
theorem zd_42_0 : z_code 42 0 = zb_42_0 := rfl
theorem zd_42_4 : z_code 42 4 = zb_42_4 := rfl
theorem zd_42_30 : z_code 42 30 = zb_42_30 := rfl
theorem zd_43_0 : z_code 43 0 = zb_43_0 := rfl
theorem zd_43_4 : z_code 43 4 = zb_43_4 := rfl
theorem zd_43_30 : z_code 43 30 = zb_43_30 := rfl
theorem zd_44_0 : z_code 44 0 = zb_44_0 := rfl
theorem zd_44_4 : z_code 44 4 = zb_44_4 := rfl
theorem zd_44_14 : z_code 44 14 = zb_44_14 := rfl
theorem zd_44_39 : z_code 44 39 = zb_44_39 := rfl
theorem zd_44_45 : z_code 44 45 = zb_44_45 := rfl
theorem zd_45_0 : z_code 45 0 = zb_45_0 := rfl
theorem zd_46_0 : z_code 46 0 = zb_46_0 := rfl
theorem zd_47_0 : z_code 47 0 = zb_47_0 := rfl
theorem zd_48_0 : z_code 48 0 = zb_48_0 := rfl
theorem zd_49_0 : z_code 49 0 = zb_49_0 := rfl
theorem zd_50_0 : z_code 50 0 = zb_50_0 := rfl
theorem zd_50_5 : z_code 50 5 = zb_50_5 := rfl
theorem zd_50_46 : z_code 50 46 = zb_50_46 := rfl
theorem zd_50_57 : z_code 50 57 = zb_50_57 := rfl
theorem zd_50_64 : z_code 50 64 = zb_50_64 := rfl
theorem zd_51_0 : z_code 51 0 = zb_51_0 := rfl
theorem zd_51_2 : z_code 51 2 = zb_51_2 := rfl
theorem zd_51_26 : z_code 51 26 = zb_51_26 := rfl
theorem zd_51_33 : z_code 51 33 = zb_51_33 := rfl
theorem zd_51_51 : z_code 51 51 = zb_51_51 := rfl
theorem zd_51_56 : z_code 51 56 = zb_51_56 := rfl
theorem zd_52_0 : z_code 52 0 = zb_52_0 := rfl
theorem zd_52_10 : z_code 52 10 = zb_52_10 := rfl
theorem zd_52_15 : z_code 52 15 = zb_52_15 := rfl
theorem zd_52_54 : z_code 52 54 = zb_52_54 := rfl
theorem zd_53_0 : z_code 53 0 = zb_53_0 := rfl
theorem zd_53_2 : z_code 53 2 = zb_53_2 := rfl
theorem zd_53_22 : z_code 53 22 = zb_53_22 := rfl
theorem zd_53_28 : z_code 53 28 = zb_53_28 := rfl
theorem zd_54_0 : z_code 54 0 = zb_54_0 := rfl
theorem zd_54_4 : z_code 54 4 = zb_54_4 := rfl
theorem zd_54_35 : z_code 54 35 = zb_54_35 := rfl
theorem zd_55_0 : z_code 55 0 = zb_55_0 := rfl
theorem zd_56_0 : z_code 56 0 = zb_56_0 := rfl
theorem zd_56_16 : z_code 56 16 = zb_56_16 := rfl
theorem zd_56_89 : z_code 56 89 = zb_56_89 := rfl
theorem zd_56_95 : z_code 56 95 = zb_56_95 := rfl
theorem zd_57_0 : z_code 57 0 = zb_57_0 := rfl
theorem zd_57_13 : z_code 57 13 = zb_57_13 := rfl
theorem zd_57_48 : z_code 57 48 = zb_57_48 := rfl
theorem zd_57_49 : z_code 57 49 = zb_57_49 := rfl
theorem zd_57_75 : z_code 57 75 = zb_57_75 := rfl
theorem zd_57_87 : z_code 57 87 = zb_57_87 := rfl
theorem zd_57_105 : z_code 57 105 = zb_57_105 := rfl
theorem zd_57_111 : z_code 57 111 = zb_57_111 := rfl
theorem zd_58_0 : z_code 58 0 = zb_58_0 := rfl
theorem zd_59_0 : z_code 59 0 = zb_59_0 := rfl
theorem zd_60_0 : z_code 60 0 = zb_60_0 := rfl
theorem zd_61_0 : z_code 61 0 = zb_61_0 := rfl
theorem zd_61_4 : z_code 61 4 = zb_61_4 := rfl
theorem zd_61_24 : z_code 61 24 = zb_61_24 := rfl
theorem zd_62_0 : z_code 62 0 = zb_62_0 := rfl
theorem zd_62_79 : z_code 62 79 = zb_62_79 := rfl
theorem zd_62_99 : z_code 62 99 = zb_62_99 := rfl
theorem zd_63_0 : z_code 63 0 = zb_63_0 := rfl
theorem zd_63_28 : z_code 63 28 = zb_63_28 := rfl
theorem zd_63_29 : z_code 63 29 = zb_63_29 := rfl
theorem zd_64_0 : z_code 64 0 = zb_64_0 := rfl
theorem zd_65_0 : z_code 65 0 = zb_65_0 := rfl
theorem zd_65_3 : z_code 65 3 = zb_65_3 := rfl
theorem zd_65_23 : z_code 65 23 = zb_65_23 := rfl
theorem zd_66_0 : z_code 66 0 = zb_66_0 := rfl
theorem zd_66_35 : z_code 66 35 = zb_66_35 := rfl
theorem zd_66_60 : z_code 66 60 = zb_66_60 := rfl
theorem zd_66_66 : z_code 66 66 = zb_66_66 := rfl
theorem zd_67_0 : z_code 67 0 = zb_67_0 := rfl
theorem zd_67_10 : z_code 67 10 = zb_67_10 := rfl
theorem zd_67_12 : z_code 67 12 = zb_67_12 := rfl
theorem zd_68_0 : z_code 68 0 = zb_68_0 := rfl
theorem zd_68_2 : z_code 68 2 = zb_68_2 := rfl
theorem zd_68_22 : z_code 68 22 = zb_68_22 := rfl
theorem zd_68_28 : z_code 68 28 = zb_68_28 := rfl
theorem zd_69_0 : z_code 69 0 = zb_69_0 := rfl
theorem zd_69_17 : z_code 69 17 = zb_69_17 := rfl
theorem zd_69_18 : z_code 69 18 = zb_69_18 := rfl
theorem zd_70_0 : z_code 70 0 = zb_70_0 := rfl
theorem zd_70_16 : z_code 70 16 = zb_70_16 := rfl
theorem zd_70_34 : z_code 70 34 = zb_70_34 := rfl
theorem zd_71_0 : z_code 71 0 = zb_71_0 := rfl
theorem zd_71_10 : z_code 71 10 = zb_71_10 := rfl
theorem zd_71_14 : z_code 71 14 = zb_71_14 := rfl
theorem zd_71_15 : z_code 71 15 = zb_71_15 := rfl
theorem zd_72_0 : z_code 72 0 = zb_72_0 := rfl
theorem zd_72_23 : z_code 72 23 = zb_72_23 := rfl
theorem zd_72_42 : z_code 72 42 = zb_72_42 := rfl
theorem zd_72_61 : z_code 72 61 = zb_72_61 := rfl
theorem zd_72_71 : z_code 72 71 = zb_72_71 := rfl
theorem zd_73_0 : z_code 73 0 = zb_73_0 := rfl
theorem zd_73_25 : z_code 73 25 = zb_73_25 := rfl
theorem zd_73_35 : z_code 73 35 = zb_73_35 := rfl
theorem zd_74_0 : z_code 74 0 = zb_74_0 := rfl
theorem zd_74_14 : z_code 74 14 = zb_74_14 := rfl
theorem zd_74_15 : z_code 74 15 = zb_74_15 := rfl
theorem zd_75_0 : z_code 75 0 = zb_75_0 := rfl
theorem zd_76_0 : z_code 76 0 = zb_76_0 := rfl
theorem zd_76_16 : z_code 76 16 = zb_76_16 := rfl
theorem zd_76_34 : z_code 76 34 = zb_76_34 := rfl
theorem zd_76_64 : z_code 76 64 = zb_76_64 := rfl
theorem zd_77_0 : z_code 77 0 = zb_77_0 := rfl
theorem zd_77_16 : z_code 77 16 = zb_77_16 := rfl
theorem zd_77_34 : z_code 77 34 = zb_77_34 := rfl
theorem zd_77_59 : z_code 77 59 = zb_77_59 := rfl
theorem zd_78_0 : z_code 78 0 = zb_78_0 := rfl
theorem zd_78_19 : z_code 78 19 = zb_78_19 := rfl
theorem zd_78_38 : z_code 78 38 = zb_78_38 := rfl
theorem zd_79_0 : z_code 79 0 = zb_79_0 := rfl
theorem zd_79_20 : z_code 79 20 = zb_79_20 := rfl
theorem zd_79_38 : z_code 79 38 = zb_79_38 := rfl
theorem zd_80_0 : z_code 80 0 = zb_80_0 := rfl
theorem zd_80_17 : z_code 80 17 = zb_80_17 := rfl
theorem zd_80_23 : z_code 80 23 = zb_80_23 := rfl
theorem zd_80_41 : z_code 80 41 = zb_80_41 := rfl
theorem zd_80_69 : z_code 80 69 = zb_80_69 := rfl
theorem zd_81_0 : z_code 81 0 = zb_81_0 := rfl
theorem zd_81_13 : z_code 81 13 = zb_81_13 := rfl
theorem zd_81_14 : z_code 81 14 = zb_81_14 := rfl
theorem zd_82_0 : z_code 82 0 = zb_82_0 := rfl
theorem zd_82_27 : z_code 82 27 = zb_82_27 := rfl
theorem zd_82_30 : z_code 82 30 = zb_82_30 := rfl
theorem zd_82_36 : z_code 82 36 = zb_82_36 := rfl
theorem zd_82_42 : z_code 82 42 = zb_82_42 := rfl
theorem zd_82_79 : z_code 82 79 = zb_82_79 := rfl
theorem zd_82_92 : z_code 82 92 = zb_82_92 := rfl
theorem zd_83_0 : z_code 83 0 = zb_83_0 := rfl
theorem zd_83_29 : z_code 83 29 = zb_83_29 := rfl
theorem zd_83_35 : z_code 83 35 = zb_83_35 := rfl
theorem zd_83_56 : z_code 83 56 = zb_83_56 := rfl
theorem zd_83_60 : z_code 83 60 = zb_83_60 := rfl
theorem zd_83_61 : z_code 83 61 = zb_83_61 := rfl
theorem zd_83_81 : z_code 83 81 = zb_83_81 := rfl
theorem zd_83_88 : z_code 83 88 = zb_83_88 := rfl
theorem zd_83_125 : z_code 83 125 = zb_83_125 := rfl
theorem zd_84_0 : z_code 84 0 = zb_84_0 := rfl
theorem zd_85_0 : z_code 85 0 = zb_85_0 := rfl
theorem zd_85_20 : z_code 85 20 = zb_85_20 := rfl
theorem zd_85_21 : z_code 85 21 = zb_85_21 := rfl
theorem zd_85_27 : z_code 85 27 = zb_85_27 := rfl
theorem zd_85_33 : z_code 85 33 = zb_85_33 := rfl
theorem zd_85_62 : z_code 85 62 = zb_85_62 := rfl
theorem zd_85_78 : z_code 85 78 = zb_85_78 := rfl
theorem zd_86_0 : z_code 86 0 = zb_86_0 := rfl
theorem zd_86_41 : z_code 86 41 = zb_86_41 := rfl
theorem zd_86_47 : z_code 86 47 = zb_86_47 := rfl
theorem zd_86_69 : z_code 86 69 = zb_86_69 := rfl
theorem zd_86_76 : z_code 86 76 = zb_86_76 := rfl
theorem zd_86_104 : z_code 86 104 = zb_86_104 := rfl
theorem zd_86_111 : z_code 86 111 = zb_86_111 := rfl
theorem zd_86_130 : z_code 86 130 = zb_86_130 := rfl
theorem zd_87_0 : z_code 87 0 = zb_87_0 := rfl
theorem zd_87_18 : z_code 87 18 = zb_87_18 := rfl
theorem zd_87_63 : z_code 87 63 = zb_87_63 := rfl
theorem zd_87_70 : z_code 87 70 = zb_87_70 := rfl
theorem zd_88_0 : z_code 88 0 = zb_88_0 := rfl
theorem zd_88_27 : z_code 88 27 = zb_88_27 := rfl
theorem zd_88_33 : z_code 88 33 = zb_88_33 := rfl
theorem zd_88_51 : z_code 88 51 = zb_88_51 := rfl
theorem zd_88_91 : z_code 88 91 = zb_88_91 := rfl
theorem zd_88_98 : z_code 88 98 = zb_88_98 := rfl
theorem zd_88_126 : z_code 88 126 = zb_88_126 := rfl
theorem zd_88_138 : z_code 88 138 = zb_88_138 := rfl
theorem zd_89_0 : z_code 89 0 = zb_89_0 := rfl
theorem zd_89_24 : z_code 89 24 = zb_89_24 := rfl
theorem zd_89_51 : z_code 89 51 = zb_89_51 := rfl
theorem zd_89_52 : z_code 89 52 = zb_89_52 := rfl
theorem zd_90_0 : z_code 90 0 = zb_90_0 := rfl
theorem zd_90_17 : z_code 90 17 = zb_90_17 := rfl
theorem zd_90_23 : z_code 90 23 = zb_90_23 := rfl
theorem zd_90_41 : z_code 90 41 = zb_90_41 := rfl
theorem zd_90_71 : z_code 90 71 = zb_90_71 := rfl
theorem zd_90_78 : z_code 90 78 = zb_90_78 := rfl
theorem zd_91_0 : z_code 91 0 = zb_91_0 := rfl
theorem zd_91_17 : z_code 91 17 = zb_91_17 := rfl
theorem zd_91_39 : z_code 91 39 = zb_91_39 := rfl
theorem zd_91_46 : z_code 91 46 = zb_91_46 := rfl
theorem zd_91_83 : z_code 91 83 = zb_91_83 := rfl
theorem zd_91_90 : z_code 91 90 = zb_91_90 := rfl
theorem zd_91_109 : z_code 91 109 = zb_91_109 := rfl
theorem zd_92_0 : z_code 92 0 = zb_92_0 := rfl
theorem zd_92_17 : z_code 92 17 = zb_92_17 := rfl
theorem zd_92_23 : z_code 92 23 = zb_92_23 := rfl
theorem zd_92_41 : z_code 92 41 = zb_92_41 := rfl
theorem zd_92_100 : z_code 92 100 = zb_92_100 := rfl
theorem zd_92_107 : z_code 92 107 = zb_92_107 := rfl
theorem zd_93_0 : z_code 93 0 = zb_93_0 := rfl
theorem zd_93_33 : z_code 93 33 = zb_93_33 := rfl
theorem zd_93_40 : z_code 93 40 = zb_93_40 := rfl
theorem zd_93_96 : z_code 93 96 = zb_93_96 := rfl
theorem zd_93_103 : z_code 93 103 = zb_93_103 := rfl
theorem zd_94_0 : z_code 94 0 = zb_94_0 := rfl
theorem zd_94_16 : z_code 94 16 = zb_94_16 := rfl
theorem zd_94_34 : z_code 94 34 = zb_94_34 := rfl
theorem zd_94_87 : z_code 94 87 = zb_94_87 := rfl
theorem zd_94_94 : z_code 94 94 = zb_94_94 := rfl
theorem zd_95_0 : z_code 95 0 = zb_95_0 := rfl
theorem zd_95_22 : z_code 95 22 = zb_95_22 := rfl
theorem zd_95_29 : z_code 95 29 = zb_95_29 := rfl
theorem zd_95_54 : z_code 95 54 = zb_95_54 := rfl
theorem zd_96_0 : z_code 96 0 = zb_96_0 := rfl
theorem zd_96_16 : z_code 96 16 = zb_96_16 := rfl
theorem zd_96_38 : z_code 96 38 = zb_96_38 := rfl
theorem zd_97_0 : z_code 97 0 = zb_97_0 := rfl
theorem zd_97_14 : z_code 97 14 = zb_97_14 := rfl
theorem zd_97_56 : z_code 97 56 = zb_97_56 := rfl
theorem zd_98_0 : z_code 98 0 = zb_98_0 := rfl
theorem zd_98_15 : z_code 98 15 = zb_98_15 := rfl
theorem zd_99_0 : z_code 99 0 = zb_99_0 := rfl
theorem zd_99_15 : z_code 99 15 = zb_99_15 := rfl
theorem zd_99_33 : z_code 99 33 = zb_99_33 := rfl
theorem zd_100_0 : z_code 100 0 = zb_100_0 := rfl
theorem zd_100_13 : z_code 100 13 = zb_100_13 := rfl
theorem zd_100_56 : z_code 100 56 = zb_100_56 := rfl
theorem zd_100_61 : z_code 100 61 = zb_100_61 := rfl
theorem zd_100_66 : z_code 100 66 = zb_100_66 := rfl
theorem zd_100_71 : z_code 100 71 = zb_100_71 := rfl
theorem zd_100_76 : z_code 100 76 = zb_100_76 := rfl
theorem zd_101_0 : z_code 101 0 = zb_101_0 := rfl
theorem zd_101_9 : z_code 101 9 = zb_101_9 := rfl
theorem zd_101_10 : z_code 101 10 = zb_101_10 := rfl
theorem zd_101_35 : z_code 101 35 = zb_101_35 := rfl
theorem zd_101_39 : z_code 101 39 = zb_101_39 := rfl
theorem zd_101_45 : z_code 101 45 = zb_101_45 := rfl
theorem zd_101_67 : z_code 101 67 = zb_101_67 := rfl
theorem zd_101_93 : z_code 101 93 = zb_101_93 := rfl
theorem zd_101_98 : z_code 101 98 = zb_101_98 := rfl
theorem zd_101_101 : z_code 101 101 = zb_101_101 := rfl
theorem zd_101_107 : z_code 101 107 = zb_101_107 := rfl
theorem zd_102_0 : z_code 102 0 = zb_102_0 := rfl
theorem zd_102_13 : z_code 102 13 = zb_102_13 := rfl
theorem zd_102_37 : z_code 102 37 = zb_102_37 := rfl
theorem zd_102_51 : z_code 102 51 = zb_102_51 := rfl
theorem zd_102_77 : z_code 102 77 = zb_102_77 := rfl
theorem zd_103_0 : z_code 103 0 = zb_103_0 := rfl
theorem zd_103_13 : z_code 103 13 = zb_103_13 := rfl
theorem zd_103_100 : z_code 103 100 = zb_103_100 := rfl
theorem zd_103_105 : z_code 103 105 = zb_103_105 := rfl
theorem zd_103_110 : z_code 103 110 = zb_103_110 := rfl
theorem zd_103_115 : z_code 103 115 = zb_103_115 := rfl
theorem zd_103_120 : z_code 103 120 = zb_103_120 := rfl
theorem zd_103_125 : z_code 103 125 = zb_103_125 := rfl
theorem zd_103_130 : z_code 103 130 = zb_103_130 := rfl
theorem zd_103_135 : z_code 103 135 = zb_103_135 := rfl
theorem zd_103_140 : z_code 103 140 = zb_103_140 := rfl
theorem zd_103_145 : z_code 103 145 = zb_103_145 := rfl
theorem zd_103_150 : z_code 103 150 = zb_103_150 := rfl
theorem zd_103_155 : z_code 103 155 = zb_103_155 := rfl
theorem zd_103_160 : z_code 103 160 = zb_103_160 := rfl
theorem zd_103_165 : z_code 103 165 = zb_103_165 := rfl
theorem zd_103_174 : z_code 103 174 = zb_103_174 := rfl
theorem zd_103_179 : z_code 103 179 = zb_103_179 := rfl
theorem zd_104_0 : z_code 104 0 = zb_104_0 := rfl
theorem zd_104_20 : z_code 104 20 = zb_104_20 := rfl
theorem zd_104_24 : z_code 104 24 = zb_104_24 := rfl
theorem zd_104_45 : z_code 104 45 = zb_104_45 := rfl
theorem zd_104_49 : z_code 104 49 = zb_104_49 := rfl
theorem zd_105_0 : z_code 105 0 = zb_105_0 := rfl
theorem zd_105_22 : z_code 105 22 = zb_105_22 := rfl
theorem zd_105_24 : z_code 105 24 = zb_105_24 := rfl
theorem zd_106_0 : z_code 106 0 = zb_106_0 := rfl
theorem zd_106_18 : z_code 106 18 = zb_106_18 := rfl
theorem zd_106_20 : z_code 106 20 = zb_106_20 := rfl
theorem zd_107_0 : z_code 107 0 = zb_107_0 := rfl
theorem zd_107_29 : z_code 107 29 = zb_107_29 := rfl
theorem zd_107_31 : z_code 107 31 = zb_107_31 := rfl
theorem zd_108_0 : z_code 108 0 = zb_108_0 := rfl
theorem zd_108_17 : z_code 108 17 = zb_108_17 := rfl
theorem zd_108_33 : z_code 108 33 = zb_108_33 := rfl
theorem zd_108_46 : z_code 108 46 = zb_108_46 := rfl
theorem zd_108_61 : z_code 108 61 = zb_108_61 := rfl
theorem zd_108_69 : z_code 108 69 = zb_108_69 := rfl
theorem zd_109_0 : z_code 109 0 = zb_109_0 := rfl
theorem zd_109_28 : z_code 109 28 = zb_109_28 := rfl
theorem zd_109_30 : z_code 109 30 = zb_109_30 := rfl
theorem zd_109_69 : z_code 109 69 = zb_109_69 := rfl
theorem zd_110_0 : z_code 110 0 = zb_110_0 := rfl
theorem zd_110_27 : z_code 110 27 = zb_110_27 := rfl
theorem zd_110_29 : z_code 110 29 = zb_110_29 := rfl
theorem zd_110_77 : z_code 110 77 = zb_110_77 := rfl
theorem zd_110_88 : z_code 110 88 = zb_110_88 := rfl
theorem zd_111_0 : z_code 111 0 = zb_111_0 := rfl
theorem zd_111_13 : z_code 111 13 = zb_111_13 := rfl
theorem zd_111_27 : z_code 111 27 = zb_111_27 := rfl
theorem zd_111_103 : z_code 111 103 = zb_111_103 := rfl
theorem zd_111_107 : z_code 111 107 = zb_111_107 := rfl
theorem zd_111_138 : z_code 111 138 = zb_111_138 := rfl
theorem zd_111_139 : z_code 111 139 = zb_111_139 := rfl
theorem zd_111_142 : z_code 111 142 = zb_111_142 := rfl
theorem zd_111_148 : z_code 111 148 = zb_111_148 := rfl
theorem zd_111_180 : z_code 111 180 = zb_111_180 := rfl
theorem zd_111_182 : z_code 111 182 = zb_111_182 := rfl
theorem zd_111_185 : z_code 111 185 = zb_111_185 := rfl
theorem zd_111_188 : z_code 111 188 = zb_111_188 := rfl
theorem zd_111_191 : z_code 111 191 = zb_111_191 := rfl
theorem zd_112_0 : z_code 112 0 = zb_112_0 := rfl
theorem zd_112_21 : z_code 112 21 = zb_112_21 := rfl
theorem zd_112_23 : z_code 112 23 = zb_112_23 := rfl
theorem zd_113_0 : z_code 113 0 = zb_113_0 := rfl
theorem zd_113_21 : z_code 113 21 = zb_113_21 := rfl
theorem zd_113_23 : z_code 113 23 = zb_113_23 := rfl
theorem zd_113_79 : z_code 113 79 = zb_113_79 := rfl
theorem zd_113_99 : z_code 113 99 = zb_113_99 := rfl
theorem zd_113_100 : z_code 113 100 = zb_113_100 := rfl
theorem zd_114_0 : z_code 114 0 = zb_114_0 := rfl
theorem zd_114_20 : z_code 114 20 = zb_114_20 := rfl
theorem zd_114_22 : z_code 114 22 = zb_114_22 := rfl
theorem zd_114_36 : z_code 114 36 = zb_114_36 := rfl
theorem zd_114_122 : z_code 114 122 = zb_114_122 := rfl
theorem zd_114_128 : z_code 114 128 = zb_114_128 := rfl
theorem zd_114_157 : z_code 114 157 = zb_114_157 := rfl
theorem zd_114_165 : z_code 114 165 = zb_114_165 := rfl
theorem zd_115_0 : z_code 115 0 = zb_115_0 := rfl
theorem zd_115_11 : z_code 115 11 = zb_115_11 := rfl
theorem zd_115_51 : z_code 115 51 = zb_115_51 := rfl
theorem zd_115_57 : z_code 115 57 = zb_115_57 := rfl
theorem zd_116_0 : z_code 116 0 = zb_116_0 := rfl
theorem zd_116_5 : z_code 116 5 = zb_116_5 := rfl
theorem zd_116_31 : z_code 116 31 = zb_116_31 := rfl
theorem zd_116_47 : z_code 116 47 = zb_116_47 := rfl
theorem zd_117_0 : z_code 117 0 = zb_117_0 := rfl
theorem zd_117_5 : z_code 117 5 = zb_117_5 := rfl
theorem zd_117_31 : z_code 117 31 = zb_117_31 := rfl
theorem zd_117_37 : z_code 117 37 = zb_117_37 := rfl
theorem zd_118_0 : z_code 118 0 = zb_118_0 := rfl
theorem zd_118_38 : z_code 118 38 = zb_118_38 := rfl
theorem zd_118_40 : z_code 118 40 = zb_118_40 := rfl
theorem zd_118_59 : z_code 118 59 = zb_118_59 := rfl
theorem zd_118_99 : z_code 118 99 = zb_118_99 := rfl
theorem zd_118_115 : z_code 118 115 = zb_118_115 := rfl
theorem zd_118_125 : z_code 118 125 = zb_118_125 := rfl
theorem zd_118_130 : z_code 118 130 = zb_118_130 := rfl
theorem zd_119_0 : z_code 119 0 = zb_119_0 := rfl
theorem zd_119_8 : z_code 119 8 = zb_119_8 := rfl
theorem zd_119_50 : z_code 119 50 = zb_119_50 := rfl
theorem zd_119_53 : z_code 119 53 = zb_119_53 := rfl
theorem zd_119_59 : z_code 119 59 = zb_119_59 := rfl
theorem zd_120_0 : z_code 120 0 = zb_120_0 := rfl
theorem zd_120_34 : z_code 120 34 = zb_120_34 := rfl
theorem zd_120_36 : z_code 120 36 = zb_120_36 := rfl
theorem zd_120_76 : z_code 120 76 = zb_120_76 := rfl
theorem zd_120_81 : z_code 120 81 = zb_120_81 := rfl
theorem zd_120_84 : z_code 120 84 = zb_120_84 := rfl
theorem zd_120_90 : z_code 120 90 = zb_120_90 := rfl
theorem zd_121_0 : z_code 121 0 = zb_121_0 := rfl
theorem zd_121_13 : z_code 121 13 = zb_121_13 := rfl
theorem zd_121_59 : z_code 121 59 = zb_121_59 := rfl
theorem zd_121_61 : z_code 121 61 = zb_121_61 := rfl
theorem zd_122_0 : z_code 122 0 = zb_122_0 := rfl
theorem zd_122_20 : z_code 122 20 = zb_122_20 := rfl
theorem zd_122_22 : z_code 122 22 = zb_122_22 := rfl
theorem zd_122_42 : z_code 122 42 = zb_122_42 := rfl
theorem zd_122_75 : z_code 122 75 = zb_122_75 := rfl
theorem zd_122_76 : z_code 122 76 = zb_122_76 := rfl
theorem zd_123_0 : z_code 123 0 = zb_123_0 := rfl
theorem zd_123_92 : z_code 123 92 = zb_123_92 := rfl
theorem zd_123_100 : z_code 123 100 = zb_123_100 := rfl
theorem zd_123_108 : z_code 123 108 = zb_123_108 := rfl
theorem zd_123_116 : z_code 123 116 = zb_123_116 := rfl
theorem zd_123_124 : z_code 123 124 = zb_123_124 := rfl
theorem zd_123_135 : z_code 123 135 = zb_123_135 := rfl
theorem zd_123_143 : z_code 123 143 = zb_123_143 := rfl
theorem zd_123_151 : z_code 123 151 = zb_123_151 := rfl
theorem zd_123_159 : z_code 123 159 = zb_123_159 := rfl
theorem zd_123_164 : z_code 123 164 = zb_123_164 := rfl
theorem zd_123_172 : z_code 123 172 = zb_123_172 := rfl
theorem zd_123_180 : z_code 123 180 = zb_123_180 := rfl
theorem zd_123_185 : z_code 123 185 = zb_123_185 := rfl
theorem zd_123_190 : z_code 123 190 = zb_123_190 := rfl
theorem zd_123_195 : z_code 123 195 = zb_123_195 := rfl
theorem zd_123_200 : z_code 123 200 = zb_123_200 := rfl
theorem zd_124_0 : z_code 124 0 = zb_124_0 := rfl
theorem zd_125_0 : z_code 125 0 = zb_125_0 := rfl
theorem zd_125_19 : z_code 125 19 = zb_125_19 := rfl
theorem zd_126_0 : z_code 126 0 = zb_126_0 := rfl
theorem zd_127_0 : z_code 127 0 = zb_127_0 := rfl
theorem zd_127_3 : z_code 127 3 = zb_127_3 := rfl
theorem zd_127_34 : z_code 127 34 = zb_127_34 := rfl
theorem zd_127_37 : z_code 127 37 = zb_127_37 := rfl
theorem zd_127_66 : z_code 127 66 = zb_127_66 := rfl
theorem zd_128_0 : z_code 128 0 = zb_128_0 := rfl
theorem zd_129_0 : z_code 129 0 = zb_129_0 := rfl
theorem zd_129_21 : z_code 129 21 = zb_129_21 := rfl
theorem zd_130_0 : z_code 130 0 = zb_130_0 := rfl
theorem zd_130_17 : z_code 130 17 = zb_130_17 := rfl
theorem zd_130_18 : z_code 130 18 = zb_130_18 := rfl
theorem zd_131_0 : z_code 131 0 = zb_131_0 := rfl
theorem zd_131_3 : z_code 131 3 = zb_131_3 := rfl
theorem zd_131_34 : z_code 131 34 = zb_131_34 := rfl
theorem zd_131_37 : z_code 131 37 = zb_131_37 := rfl
theorem zd_131_66 : z_code 131 66 = zb_131_66 := rfl
theorem zd_132_0 : z_code 132 0 = zb_132_0 := rfl
theorem zd_132_21 : z_code 132 21 = zb_132_21 := rfl
theorem zd_132_37 : z_code 132 37 = zb_132_37 := rfl
theorem zd_133_0 : z_code 133 0 = zb_133_0 := rfl
theorem zd_133_23 : z_code 133 23 = zb_133_23 := rfl
theorem zd_133_42 : z_code 133 42 = zb_133_42 := rfl
theorem zd_134_0 : z_code 134 0 = zb_134_0 := rfl
theorem zd_134_11 : z_code 134 11 = zb_134_11 := rfl
theorem zd_134_40 : z_code 134 40 = zb_134_40 := rfl
theorem zd_134_42 : z_code 134 42 = zb_134_42 := rfl
theorem zd_134_70 : z_code 134 70 = zb_134_70 := rfl
theorem zd_134_72 : z_code 134 72 = zb_134_72 := rfl
theorem zd_134_98 : z_code 134 98 = zb_134_98 := rfl
theorem zd_134_108 : z_code 134 108 = zb_134_108 := rfl
theorem zd_135_0 : z_code 135 0 = zb_135_0 := rfl
theorem zd_136_0 : z_code 136 0 = zb_136_0 := rfl
theorem zd_137_0 : z_code 137 0 = zb_137_0 := rfl
theorem zd_137_4 : z_code 137 4 = zb_137_4 := rfl
theorem zd_137_12 : z_code 137 12 = zb_137_12 := rfl
theorem zd_137_101 : z_code 137 101 = zb_137_101 := rfl
theorem zd_137_115 : z_code 137 115 = zb_137_115 := rfl
theorem zd_137_116 : z_code 137 116 = zb_137_116 := rfl
theorem zd_137_117 : z_code 137 117 = zb_137_117 := rfl
theorem zd_137_123 : z_code 137 123 = zb_137_123 := rfl
theorem zd_137_129 : z_code 137 129 = zb_137_129 := rfl
theorem zd_138_0 : z_code 138 0 = zb_138_0 := rfl
theorem zd_139_0 : z_code 139 0 = zb_139_0 := rfl
theorem zd_139_26 : z_code 139 26 = zb_139_26 := rfl
theorem zd_139_35 : z_code 139 35 = zb_139_35 := rfl
theorem zd_140_0 : z_code 140 0 = zb_140_0 := rfl
theorem zd_141_0 : z_code 141 0 = zb_141_0 := rfl
theorem zd_141_17 : z_code 141 17 = zb_141_17 := rfl
theorem zd_141_80 : z_code 141 80 = zb_141_80 := rfl
theorem zd_141_82 : z_code 141 82 = zb_141_82 := rfl
theorem zd_141_90 : z_code 141 90 = zb_141_90 := rfl
theorem zd_142_0 : z_code 142 0 = zb_142_0 := rfl
theorem zd_143_0 : z_code 143 0 = zb_143_0 := rfl
theorem zd_143_14 : z_code 143 14 = zb_143_14 := rfl
theorem zd_143_76 : z_code 143 76 = zb_143_76 := rfl
theorem zd_143_82 : z_code 143 82 = zb_143_82 := rfl
theorem zd_144_0 : z_code 144 0 = zb_144_0 := rfl
theorem zd_144_9 : z_code 144 9 = zb_144_9 := rfl
theorem zd_144_10 : z_code 144 10 = zb_144_10 := rfl
theorem zd_145_0 : z_code 145 0 = zb_145_0 := rfl
theorem zd_145_23 : z_code 145 23 = zb_145_23 := rfl
theorem zd_145_29 : z_code 145 29 = zb_145_29 := rfl
theorem zd_145_61 : z_code 145 61 = zb_145_61 := rfl
theorem zd_145_72 : z_code 145 72 = zb_145_72 := rfl
theorem zd_145_123 : z_code 145 123 = zb_145_123 := rfl
theorem zd_145_129 : z_code 145 129 = zb_145_129 := rfl
theorem zd_146_0 : z_code 146 0 = zb_146_0 := rfl
theorem zd_146_4 : z_code 146 4 = zb_146_4 := rfl
theorem zd_146_35 : z_code 146 35 = zb_146_35 := rfl
theorem zd_146_41 : z_code 146 41 = zb_146_41 := rfl
theorem zd_146_49 : z_code 146 49 = zb_146_49 := rfl
theorem zd_147_0 : z_code 147 0 = zb_147_0 := rfl
theorem zd_148_0 : z_code 148 0 = zb_148_0 := rfl
theorem zd_149_0 : z_code 149 0 = zb_149_0 := rfl
theorem zd_149_9 : z_code 149 9 = zb_149_9 := rfl
theorem zd_149_10 : z_code 149 10 = zb_149_10 := rfl
theorem zd_150_0 : z_code 150 0 = zb_150_0 := rfl
theorem zd_150_23 : z_code 150 23 = zb_150_23 := rfl
theorem zd_150_38 : z_code 150 38 = zb_150_38 := rfl
theorem zd_150_73 : z_code 150 73 = zb_150_73 := rfl
theorem zd_150_80 : z_code 150 80 = zb_150_80 := rfl
theorem zd_151_0 : z_code 151 0 = zb_151_0 := rfl
theorem zd_152_0 : z_code 152 0 = zb_152_0 := rfl
theorem zd_153_0 : z_code 153 0 = zb_153_0 := rfl
theorem zd_153_23 : z_code 153 23 = zb_153_23 := rfl
theorem zd_153_38 : z_code 153 38 = zb_153_38 := rfl
theorem zd_153_62 : z_code 153 62 = zb_153_62 := rfl
theorem zd_154_0 : z_code 154 0 = zb_154_0 := rfl
theorem zd_154_21 : z_code 154 21 = zb_154_21 := rfl
theorem zd_154_43 : z_code 154 43 = zb_154_43 := rfl
theorem zd_155_0 : z_code 155 0 = zb_155_0 := rfl
theorem zd_155_15 : z_code 155 15 = zb_155_15 := rfl
theorem zd_155_25 : z_code 155 25 = zb_155_25 := rfl
theorem zd_155_29 : z_code 155 29 = zb_155_29 := rfl
theorem zd_155_30 : z_code 155 30 = zb_155_30 := rfl
theorem zd_155_50 : z_code 155 50 = zb_155_50 := rfl
theorem zd_155_63 : z_code 155 63 = zb_155_63 := rfl
theorem zd_155_76 : z_code 155 76 = zb_155_76 := rfl
theorem zd_155_80 : z_code 155 80 = zb_155_80 := rfl
theorem zd_155_81 : z_code 155 81 = zb_155_81 := rfl
theorem zd_156_0 : z_code 156 0 = zb_156_0 := rfl
theorem zd_156_14 : z_code 156 14 = zb_156_14 := rfl
theorem zd_156_29 : z_code 156 29 = zb_156_29 := rfl
theorem zd_156_39 : z_code 156 39 = zb_156_39 := rfl
theorem zd_156_41 : z_code 156 41 = zb_156_41 := rfl
theorem zd_156_75 : z_code 156 75 = zb_156_75 := rfl
theorem zd_156_81 : z_code 156 81 = zb_156_81 := rfl
theorem zd_157_0 : z_code 157 0 = zb_157_0 := rfl
theorem zd_157_22 : z_code 157 22 = zb_157_22 := rfl
theorem zd_157_37 : z_code 157 37 = zb_157_37 := rfl
theorem zd_158_0 : z_code 158 0 = zb_158_0 := rfl
theorem zd_159_0 : z_code 159 0 = zb_159_0 := rfl
theorem zd_159_24 : z_code 159 24 = zb_159_24 := rfl
theorem zd_159_30 : z_code 159 30 = zb_159_30 := rfl
theorem zd_159_45 : z_code 159 45 = zb_159_45 := rfl
theorem zd_159_74 : z_code 159 74 = zb_159_74 := rfl
theorem zd_160_0 : z_code 160 0 = zb_160_0 := rfl
theorem zd_161_0 : z_code 161 0 = zb_161_0 := rfl
theorem zd_161_35 : z_code 161 35 = zb_161_35 := rfl
theorem zd_161_38 : z_code 161 38 = zb_161_38 := rfl
theorem zd_161_44 : z_code 161 44 = zb_161_44 := rfl
theorem zd_161_50 : z_code 161 50 = zb_161_50 := rfl
theorem zd_162_0 : z_code 162 0 = zb_162_0 := rfl
theorem zd_162_36 : z_code 162 36 = zb_162_36 := rfl
theorem zd_162_42 : z_code 162 42 = zb_162_42 := rfl
theorem zd_162_65 : z_code 162 65 = zb_162_65 := rfl
theorem zd_162_72 : z_code 162 72 = zb_162_72 := rfl
theorem zd_162_84 : z_code 162 84 = zb_162_84 := rfl
theorem zd_162_121 : z_code 162 121 = zb_162_121 := rfl
theorem zd_162_123 : z_code 162 123 = zb_162_123 := rfl
theorem zd_162_131 : z_code 162 131 = zb_162_131 := rfl
theorem zd_162_176 : z_code 162 176 = zb_162_176 := rfl
theorem zd_162_177 : z_code 162 177 = zb_162_177 := rfl
theorem zd_162_209 : z_code 162 209 = zb_162_209 := rfl
theorem zd_162_256 : z_code 162 256 = zb_162_256 := rfl
theorem zd_162_268 : z_code 162 268 = zb_162_268 := rfl
theorem zd_163_0 : z_code 163 0 = zb_163_0 := rfl
theorem zd_163_4 : z_code 163 4 = zb_163_4 := rfl
theorem zd_163_50 : z_code 163 50 = zb_163_50 := rfl
theorem zd_163_54 : z_code 163 54 = zb_163_54 := rfl
theorem zd_163_55 : z_code 163 55 = zb_163_55 := rfl
theorem zd_163_62 : z_code 163 62 = zb_163_62 := rfl
theorem zd_164_0 : z_code 164 0 = zb_164_0 := rfl
theorem zd_165_0 : z_code 165 0 = zb_165_0 := rfl
theorem zd_165_24 : z_code 165 24 = zb_165_24 := rfl
theorem zd_165_37 : z_code 165 37 = zb_165_37 := rfl
theorem zd_165_41 : z_code 165 41 = zb_165_41 := rfl
theorem zd_165_42 : z_code 165 42 = zb_165_42 := rfl
theorem zd_166_0 : z_code 166 0 = zb_166_0 := rfl
theorem zd_166_4 : z_code 166 4 = zb_166_4 := rfl
theorem zd_166_32 : z_code 166 32 = zb_166_32 := rfl
theorem zd_167_0 : z_code 167 0 = zb_167_0 := rfl
theorem zd_167_11 : z_code 167 11 = zb_167_11 := rfl
theorem zd_167_92 : z_code 167 92 = zb_167_92 := rfl
theorem zd_167_112 : z_code 167 112 = zb_167_112 := rfl
theorem zd_167_125 : z_code 167 125 = zb_167_125 := rfl
theorem zd_168_0 : z_code 168 0 = zb_168_0 := rfl
theorem zd_168_22 : z_code 168 22 = zb_168_22 := rfl
theorem zd_168_59 : z_code 168 59 = zb_168_59 := rfl
theorem zd_168_65 : z_code 168 65 = zb_168_65 := rfl
theorem zd_168_68 : z_code 168 68 = zb_168_68 := rfl
theorem zd_168_120 : z_code 168 120 = zb_168_120 := rfl
theorem zd_168_121 : z_code 168 121 = zb_168_121 := rfl
theorem zd_168_139 : z_code 168 139 = zb_168_139 := rfl
theorem zd_168_145 : z_code 168 145 = zb_168_145 := rfl
theorem zd_169_0 : z_code 169 0 = zb_169_0 := rfl
theorem zd_170_0 : z_code 170 0 = zb_170_0 := rfl
theorem zd_170_2 : z_code 170 2 = zb_170_2 := rfl
theorem zd_170_41 : z_code 170 41 = zb_170_41 := rfl
theorem zd_170_43 : z_code 170 43 = zb_170_43 := rfl
theorem zd_170_81 : z_code 170 81 = zb_170_81 := rfl
theorem zd_171_0 : z_code 171 0 = zb_171_0 := rfl
theorem zd_171_28 : z_code 171 28 = zb_171_28 := rfl
theorem zd_171_29 : z_code 171 29 = zb_171_29 := rfl
theorem zd_171_35 : z_code 171 35 = zb_171_35 := rfl
theorem zd_171_41 : z_code 171 41 = zb_171_41 := rfl
theorem zd_172_0 : z_code 172 0 = zb_172_0 := rfl
theorem zd_172_51 : z_code 172 51 = zb_172_51 := rfl
theorem zd_172_57 : z_code 172 57 = zb_172_57 := rfl
theorem zd_172_73 : z_code 172 73 = zb_172_73 := rfl
theorem zd_172_80 : z_code 172 80 = zb_172_80 := rfl
theorem zd_172_101 : z_code 172 101 = zb_172_101 := rfl
theorem zd_172_108 : z_code 172 108 = zb_172_108 := rfl
theorem zd_172_130 : z_code 172 130 = zb_172_130 := rfl
theorem zd_172_146 : z_code 172 146 = zb_172_146 := rfl
theorem zd_172_170 : z_code 172 170 = zb_172_170 := rfl
theorem zd_173_0 : z_code 173 0 = zb_173_0 := rfl
theorem zd_173_20 : z_code 173 20 = zb_173_20 := rfl
theorem zd_173_76 : z_code 173 76 = zb_173_76 := rfl
theorem zd_173_83 : z_code 173 83 = zb_173_83 := rfl
theorem zd_174_0 : z_code 174 0 = zb_174_0 := rfl
theorem zd_175_0 : z_code 175 0 = zb_175_0 := rfl
theorem zd_175_4 : z_code 175 4 = zb_175_4 := rfl
theorem zd_175_28 : z_code 175 28 = zb_175_28 := rfl
theorem zd_175_29 : z_code 175 29 = zb_175_29 := rfl
theorem zd_175_37 : z_code 175 37 = zb_175_37 := rfl
theorem zd_176_0 : z_code 176 0 = zb_176_0 := rfl
theorem zd_176_34 : z_code 176 34 = zb_176_34 := rfl
theorem zd_176_40 : z_code 176 40 = zb_176_40 := rfl
theorem zd_176_55 : z_code 176 55 = zb_176_55 := rfl
theorem zd_176_97 : z_code 176 97 = zb_176_97 := rfl
theorem zd_176_101 : z_code 176 101 = zb_176_101 := rfl
theorem zd_176_102 : z_code 176 102 = zb_176_102 := rfl
theorem zd_176_123 : z_code 176 123 = zb_176_123 := rfl
theorem zd_176_130 : z_code 176 130 = zb_176_130 := rfl
theorem zd_176_158 : z_code 176 158 = zb_176_158 := rfl
theorem zd_176_174 : z_code 176 174 = zb_176_174 := rfl
theorem zd_176_186 : z_code 176 186 = zb_176_186 := rfl
theorem zd_176_190 : z_code 176 190 = zb_176_190 := rfl
theorem zd_177_0 : z_code 177 0 = zb_177_0 := rfl
theorem zd_177_21 : z_code 177 21 = zb_177_21 := rfl
theorem zd_177_22 : z_code 177 22 = zb_177_22 := rfl
theorem zd_178_0 : z_code 178 0 = zb_178_0 := rfl
theorem zd_179_0 : z_code 179 0 = zb_179_0 := rfl
theorem zd_180_0 : z_code 180 0 = zb_180_0 := rfl
theorem zd_181_0 : z_code 181 0 = zb_181_0 := rfl
theorem zd_182_0 : z_code 182 0 = zb_182_0 := rfl
theorem zd_183_0 : z_code 183 0 = zb_183_0 := rfl
theorem zd_184_0 : z_code 184 0 = zb_184_0 := rfl
theorem zd_185_0 : z_code 185 0 = zb_185_0 := rfl
theorem zd_186_0 : z_code 186 0 = zb_186_0 := rfl
theorem zd_186_10 : z_code 186 10 = zb_186_10 := rfl
theorem zd_186_102 : z_code 186 102 = zb_186_102 := rfl
theorem zd_187_0 : z_code 187 0 = zb_187_0 := rfl
theorem zd_188_0 : z_code 188 0 = zb_188_0 := rfl
theorem zd_188_24 : z_code 188 24 = zb_188_24 := rfl
theorem zd_188_30 : z_code 188 30 = zb_188_30 := rfl
theorem zd_188_45 : z_code 188 45 = zb_188_45 := rfl
theorem zd_188_57 : z_code 188 57 = zb_188_57 := rfl
theorem zd_188_87 : z_code 188 87 = zb_188_87 := rfl
theorem zd_188_111 : z_code 188 111 = zb_188_111 := rfl
theorem zd_188_118 : z_code 188 118 = zb_188_118 := rfl
theorem zd_188_139 : z_code 188 139 = zb_188_139 := rfl
theorem zd_188_210 : z_code 188 210 = zb_188_210 := rfl
theorem zd_188_227 : z_code 188 227 = zb_188_227 := rfl
theorem zd_189_0 : z_code 189 0 = zb_189_0 := rfl
theorem zd_189_6 : z_code 189 6 = zb_189_6 := rfl
theorem zd_189_63 : z_code 189 63 = zb_189_63 := rfl
theorem zd_189_67 : z_code 189 67 = zb_189_67 := rfl
theorem zd_189_68 : z_code 189 68 = zb_189_68 := rfl
theorem zd_189_109 : z_code 189 109 = zb_189_109 := rfl
theorem zd_189_113 : z_code 189 113 = zb_189_113 := rfl
theorem zd_189_114 : z_code 189 114 = zb_189_114 := rfl
theorem zd_189_147 : z_code 189 147 = zb_189_147 := rfl
theorem zd_189_151 : z_code 189 151 = zb_189_151 := rfl
theorem zd_189_157 : z_code 189 157 = zb_189_157 := rfl
theorem zd_190_0 : z_code 190 0 = zb_190_0 := rfl
theorem zd_190_23 : z_code 190 23 = zb_190_23 := rfl
theorem zd_190_39 : z_code 190 39 = zb_190_39 := rfl
theorem zd_190_46 : z_code 190 46 = zb_190_46 := rfl
theorem zd_190_110 : z_code 190 110 = zb_190_110 := rfl
theorem zd_190_117 : z_code 190 117 = zb_190_117 := rfl
theorem zd_190_139 : z_code 190 139 = zb_190_139 := rfl
theorem zd_190_155 : z_code 190 155 = zb_190_155 := rfl
theorem zd_190_191 : z_code 190 191 = zb_190_191 := rfl
theorem zd_190_192 : z_code 190 192 = zb_190_192 := rfl
theorem zd_190_199 : z_code 190 199 = zb_190_199 := rfl
theorem zd_191_0 : z_code 191 0 = zb_191_0 := rfl
theorem zd_191_24 : z_code 191 24 = zb_191_24 := rfl
theorem zd_191_30 : z_code 191 30 = zb_191_30 := rfl
theorem zd_191_45 : z_code 191 45 = zb_191_45 := rfl
theorem zd_191_85 : z_code 191 85 = zb_191_85 := rfl
theorem zd_191_92 : z_code 191 92 = zb_191_92 := rfl
theorem zd_191_120 : z_code 191 120 = zb_191_120 := rfl
theorem zd_191_152 : z_code 191 152 = zb_191_152 := rfl
theorem zd_191_163 : z_code 191 163 = zb_191_163 := rfl
theorem zd_191_185 : z_code 191 185 = zb_191_185 := rfl
theorem zd_191_191 : z_code 191 191 = zb_191_191 := rfl
theorem zd_192_0 : z_code 192 0 = zb_192_0 := rfl
theorem zd_192_29 : z_code 192 29 = zb_192_29 := rfl
theorem zd_192_36 : z_code 192 36 = zb_192_36 := rfl
theorem zd_192_84 : z_code 192 84 = zb_192_84 := rfl
theorem zd_192_91 : z_code 192 91 = zb_192_91 := rfl
theorem zd_193_0 : z_code 193 0 = zb_193_0 := rfl
theorem zd_193_23 : z_code 193 23 = zb_193_23 := rfl
theorem zd_193_38 : z_code 193 38 = zb_193_38 := rfl
theorem zd_193_88 : z_code 193 88 = zb_193_88 := rfl
theorem zd_193_95 : z_code 193 95 = zb_193_95 := rfl
theorem zd_193_135 : z_code 193 135 = zb_193_135 := rfl
theorem zd_194_0 : z_code 194 0 = zb_194_0 := rfl
theorem zd_194_21 : z_code 194 21 = zb_194_21 := rfl
theorem zd_194_28 : z_code 194 28 = zb_194_28 := rfl
theorem zd_194_63 : z_code 194 63 = zb_194_63 := rfl
theorem zd_194_70 : z_code 194 70 = zb_194_70 := rfl
theorem zd_195_0 : z_code 195 0 = zb_195_0 := rfl
theorem zd_195_23 : z_code 195 23 = zb_195_23 := rfl
theorem zd_195_44 : z_code 195 44 = zb_195_44 := rfl
theorem zd_196_0 : z_code 196 0 = zb_196_0 := rfl
theorem zd_196_7 : z_code 196 7 = zb_196_7 := rfl
theorem zd_196_22 : z_code 196 22 = zb_196_22 := rfl
theorem zd_197_0 : z_code 197 0 = zb_197_0 := rfl
theorem zd_197_12 : z_code 197 12 = zb_197_12 := rfl
theorem zd_197_83 : z_code 197 83 = zb_197_83 := rfl
theorem zd_197_89 : z_code 197 89 = zb_197_89 := rfl
theorem zd_198_0 : z_code 198 0 = zb_198_0 := rfl
theorem zd_198_15 : z_code 198 15 = zb_198_15 := rfl
theorem zd_198_41 : z_code 198 41 = zb_198_41 := rfl
theorem zd_198_54 : z_code 198 54 = zb_198_54 := rfl
theorem zd_198_55 : z_code 198 55 = zb_198_55 := rfl
theorem zd_199_0 : z_code 199 0 = zb_199_0 := rfl
theorem zd_199_18 : z_code 199 18 = zb_199_18 := rfl
theorem zd_199_28 : z_code 199 28 = zb_199_28 := rfl
theorem zd_199_32 : z_code 199 32 = zb_199_32 := rfl
theorem zd_199_37 : z_code 199 37 = zb_199_37 := rfl
theorem zd_199_60 : z_code 199 60 = zb_199_60 := rfl
theorem zd_199_74 : z_code 199 74 = zb_199_74 := rfl
theorem zd_199_75 : z_code 199 75 = zb_199_75 := rfl
theorem zd_199_83 : z_code 199 83 = zb_199_83 := rfl
theorem zd_200_0 : z_code 200 0 = zb_200_0 := rfl
theorem zd_200_15 : z_code 200 15 = zb_200_15 := rfl
theorem zd_200_43 : z_code 200 43 = zb_200_43 := rfl
theorem zd_200_56 : z_code 200 56 = zb_200_56 := rfl
theorem zd_200_86 : z_code 200 86 = zb_200_86 := rfl
theorem zd_200_87 : z_code 200 87 = zb_200_87 := rfl
theorem zd_201_0 : z_code 201 0 = zb_201_0 := rfl
theorem zd_201_15 : z_code 201 15 = zb_201_15 := rfl
theorem zd_201_36 : z_code 201 36 = zb_201_36 := rfl
theorem zd_201_37 : z_code 201 37 = zb_201_37 := rfl
theorem zd_201_116 : z_code 201 116 = zb_201_116 := rfl
theorem zd_201_126 : z_code 201 126 = zb_201_126 := rfl
theorem zd_201_135 : z_code 201 135 = zb_201_135 := rfl
theorem zd_201_144 : z_code 201 144 = zb_201_144 := rfl
theorem zd_201_153 : z_code 201 153 = zb_201_153 := rfl
theorem zd_201_162 : z_code 201 162 = zb_201_162 := rfl
theorem zd_201_171 : z_code 201 171 = zb_201_171 := rfl
theorem zd_201_180 : z_code 201 180 = zb_201_180 := rfl
theorem zd_201_198 : z_code 201 198 = zb_201_198 := rfl
theorem zd_201_202 : z_code 201 202 = zb_201_202 := rfl
theorem zd_201_211 : z_code 201 211 = zb_201_211 := rfl
theorem zd_201_212 : z_code 201 212 = zb_201_212 := rfl
theorem zd_201_222 : z_code 201 222 = zb_201_222 := rfl
theorem zd_201_228 : z_code 201 228 = zb_201_228 := rfl
theorem zd_201_238 : z_code 201 238 = zb_201_238 := rfl
theorem zd_201_248 : z_code 201 248 = zb_201_248 := rfl
theorem zd_201_258 : z_code 201 258 = zb_201_258 := rfl
theorem zd_201_276 : z_code 201 276 = zb_201_276 := rfl
theorem zd_201_284 : z_code 201 284 = zb_201_284 := rfl
theorem zd_201_285 : z_code 201 285 = zb_201_285 := rfl
theorem zd_201_286 : z_code 201 286 = zb_201_286 := rfl
theorem zd_201_296 : z_code 201 296 = zb_201_296 := rfl
theorem zd_202_0 : z_code 202 0 = zb_202_0 := rfl
theorem zd_202_39 : z_code 202 39 = zb_202_39 := rfl
theorem zd_202_42 : z_code 202 42 = zb_202_42 := rfl
theorem zd_203_0 : z_code 203 0 = zb_203_0 := rfl
theorem zd_203_38 : z_code 203 38 = zb_203_38 := rfl
theorem zd_203_39 : z_code 203 39 = zb_203_39 := rfl
theorem zd_204_0 : z_code 204 0 = zb_204_0 := rfl
theorem zd_204_33 : z_code 204 33 = zb_204_33 := rfl
theorem zd_204_34 : z_code 204 34 = zb_204_34 := rfl
theorem zd_205_0 : z_code 205 0 = zb_205_0 := rfl
theorem zd_205_46 : z_code 205 46 = zb_205_46 := rfl
theorem zd_205_47 : z_code 205 47 = zb_205_47 := rfl
theorem zd_206_0 : z_code 206 0 = zb_206_0 := rfl
theorem zd_206_11 : z_code 206 11 = zb_206_11 := rfl
theorem zd_206_23 : z_code 206 23 = zb_206_23 := rfl
theorem zd_206_36 : z_code 206 36 = zb_206_36 := rfl
theorem zd_206_49 : z_code 206 49 = zb_206_49 := rfl
theorem zd_206_50 : z_code 206 50 = zb_206_50 := rfl
theorem zd_207_0 : z_code 207 0 = zb_207_0 := rfl
theorem zd_207_7 : z_code 207 7 = zb_207_7 := rfl
theorem zd_207_17 : z_code 207 17 = zb_207_17 := rfl
theorem zd_207_64 : z_code 207 64 = zb_207_64 := rfl
theorem zd_207_65 : z_code 207 65 = zb_207_65 := rfl
theorem zd_207_69 : z_code 207 69 = zb_207_69 := rfl
theorem zd_207_75 : z_code 207 75 = zb_207_75 := rfl
theorem zd_207_81 : z_code 207 81 = zb_207_81 := rfl
theorem zd_208_0 : z_code 208 0 = zb_208_0 := rfl
theorem zd_208_10 : z_code 208 10 = zb_208_10 := rfl
theorem zd_208_34 : z_code 208 34 = zb_208_34 := rfl
theorem zd_209_0 : z_code 209 0 = zb_209_0 := rfl
theorem zd_209_7 : z_code 209 7 = zb_209_7 := rfl
theorem zd_209_52 : z_code 209 52 = zb_209_52 := rfl
theorem zd_209_53 : z_code 209 53 = zb_209_53 := rfl
theorem zd_209_57 : z_code 209 57 = zb_209_57 := rfl
theorem zd_209_63 : z_code 209 63 = zb_209_63 := rfl
theorem zd_210_0 : z_code 210 0 = zb_210_0 := rfl
theorem zd_210_32 : z_code 210 32 = zb_210_32 := rfl
theorem zd_210_34 : z_code 210 34 = zb_210_34 := rfl
theorem zd_210_66 : z_code 210 66 = zb_210_66 := rfl
theorem zd_210_80 : z_code 210 80 = zb_210_80 := rfl
theorem zd_211_0 : z_code 211 0 = zb_211_0 := rfl
theorem zd_211_34 : z_code 211 34 = zb_211_34 := rfl
theorem zd_211_36 : z_code 211 36 = zb_211_36 := rfl
theorem zd_211_50 : z_code 211 50 = zb_211_50 := rfl
theorem zd_211_91 : z_code 211 91 = zb_211_91 := rfl
theorem zd_211_96 : z_code 211 96 = zb_211_96 := rfl
theorem zd_211_98 : z_code 211 98 = zb_211_98 := rfl
theorem zd_211_112 : z_code 211 112 = zb_211_112 := rfl
theorem zd_211_114 : z_code 211 114 = zb_211_114 := rfl
theorem zd_211_122 : z_code 211 122 = zb_211_122 := rfl
theorem zd_211_131 : z_code 211 131 = zb_211_131 := rfl
theorem zd_211_133 : z_code 211 133 = zb_211_133 := rfl
theorem zd_212_0 : z_code 212 0 = zb_212_0 := rfl
theorem zd_212_25 : z_code 212 25 = zb_212_25 := rfl
theorem zd_212_27 : z_code 212 27 = zb_212_27 := rfl
theorem zd_212_41 : z_code 212 41 = zb_212_41 := rfl
theorem zd_212_112 : z_code 212 112 = zb_212_112 := rfl
theorem zd_212_117 : z_code 212 117 = zb_212_117 := rfl
theorem zd_212_119 : z_code 212 119 = zb_212_119 := rfl
theorem zd_212_156 : z_code 212 156 = zb_212_156 := rfl
theorem zd_212_157 : z_code 212 157 = zb_212_157 := rfl
theorem zd_212_160 : z_code 212 160 = zb_212_160 := rfl
theorem zd_212_166 : z_code 212 166 = zb_212_166 := rfl
theorem zd_212_174 : z_code 212 174 = zb_212_174 := rfl
theorem zd_212_184 : z_code 212 184 = zb_212_184 := rfl
theorem zd_212_194 : z_code 212 194 = zb_212_194 := rfl
theorem zd_212_196 : z_code 212 196 = zb_212_196 := rfl
theorem zd_213_0 : z_code 213 0 = zb_213_0 := rfl
theorem zd_213_25 : z_code 213 25 = zb_213_25 := rfl
theorem zd_213_27 : z_code 213 27 = zb_213_27 := rfl
theorem zd_214_0 : z_code 214 0 = zb_214_0 := rfl
theorem zd_214_24 : z_code 214 24 = zb_214_24 := rfl
theorem zd_214_26 : z_code 214 26 = zb_214_26 := rfl
theorem zd_214_94 : z_code 214 94 = zb_214_94 := rfl
theorem zd_214_98 : z_code 214 98 = zb_214_98 := rfl
theorem zd_214_99 : z_code 214 99 = zb_214_99 := rfl
theorem zd_214_110 : z_code 214 110 = zb_214_110 := rfl
theorem zd_214_128 : z_code 214 128 = zb_214_128 := rfl
theorem zd_214_129 : z_code 214 129 = zb_214_129 := rfl
theorem zd_215_0 : z_code 215 0 = zb_215_0 := rfl
theorem zd_215_23 : z_code 215 23 = zb_215_23 := rfl
theorem zd_215_25 : z_code 215 25 = zb_215_25 := rfl
theorem zd_215_32 : z_code 215 32 = zb_215_32 := rfl
theorem zd_215_100 : z_code 215 100 = zb_215_100 := rfl
theorem zd_215_106 : z_code 215 106 = zb_215_106 := rfl
theorem zd_215_114 : z_code 215 114 = zb_215_114 := rfl
theorem zd_215_131 : z_code 215 131 = zb_215_131 := rfl
theorem zd_215_163 : z_code 215 163 = zb_215_163 := rfl
theorem zd_215_164 : z_code 215 164 = zb_215_164 := rfl
theorem zd_215_173 : z_code 215 173 = zb_215_173 := rfl
theorem zd_215_197 : z_code 215 197 = zb_215_197 := rfl
theorem zd_215_203 : z_code 215 203 = zb_215_203 := rfl
theorem zd_215_211 : z_code 215 211 = zb_215_211 := rfl
theorem zd_215_213 : z_code 215 213 = zb_215_213 := rfl
theorem zd_216_0 : z_code 216 0 = zb_216_0 := rfl
theorem zd_216_45 : z_code 216 45 = zb_216_45 := rfl
theorem zd_216_46 : z_code 216 46 = zb_216_46 := rfl
theorem zd_217_0 : z_code 217 0 = zb_217_0 := rfl
theorem zd_217_43 : z_code 217 43 = zb_217_43 := rfl
theorem zd_217_45 : z_code 217 45 = zb_217_45 := rfl
theorem zd_217_59 : z_code 217 59 = zb_217_59 := rfl
theorem zd_217_112 : z_code 217 112 = zb_217_112 := rfl
theorem zd_217_118 : z_code 217 118 = zb_217_118 := rfl
theorem zd_217_135 : z_code 217 135 = zb_217_135 := rfl
theorem zd_217_167 : z_code 217 167 = zb_217_167 := rfl
theorem zd_217_168 : z_code 217 168 = zb_217_168 := rfl
theorem zd_217_177 : z_code 217 177 = zb_217_177 := rfl
theorem zd_217_202 : z_code 217 202 = zb_217_202 := rfl
theorem zd_217_207 : z_code 217 207 = zb_217_207 := rfl
theorem zd_217_209 : z_code 217 209 = zb_217_209 := rfl
theorem zd_217_217 : z_code 217 217 = zb_217_217 := rfl
theorem zd_217_228 : z_code 217 228 = zb_217_228 := rfl
theorem zd_217_233 : z_code 217 233 = zb_217_233 := rfl
theorem zd_217_238 : z_code 217 238 = zb_217_238 := rfl
theorem zd_218_0 : z_code 218 0 = zb_218_0 := rfl
theorem zd_218_4 : z_code 218 4 = zb_218_4 := rfl
theorem zd_218_20 : z_code 218 20 = zb_218_20 := rfl
theorem zd_219_0 : z_code 219 0 = zb_219_0 := rfl
theorem zd_219_43 : z_code 219 43 = zb_219_43 := rfl
theorem zd_219_45 : z_code 219 45 = zb_219_45 := rfl
theorem zd_219_75 : z_code 219 75 = zb_219_75 := rfl
theorem zd_219_87 : z_code 219 87 = zb_219_87 := rfl
theorem zd_219_100 : z_code 219 100 = zb_219_100 := rfl
theorem zd_219_105 : z_code 219 105 = zb_219_105 := rfl
theorem zd_220_0 : z_code 220 0 = zb_220_0 := rfl
theorem zd_220_4 : z_code 220 4 = zb_220_4 := rfl
theorem zd_220_34 : z_code 220 34 = zb_220_34 := rfl
theorem zd_221_0 : z_code 221 0 = zb_221_0 := rfl
theorem zd_221_37 : z_code 221 37 = zb_221_37 := rfl
theorem zd_221_39 : z_code 221 39 = zb_221_39 := rfl
theorem zd_222_0 : z_code 222 0 = zb_222_0 := rfl
theorem zd_222_23 : z_code 222 23 = zb_222_23 := rfl
theorem zd_222_25 : z_code 222 25 = zb_222_25 := rfl
theorem zd_222_57 : z_code 222 57 = zb_222_57 := rfl
theorem zd_222_96 : z_code 222 96 = zb_222_96 := rfl
theorem zd_222_101 : z_code 222 101 = zb_222_101 := rfl
theorem zd_222_106 : z_code 222 106 = zb_222_106 := rfl
theorem zd_222_108 : z_code 222 108 = zb_222_108 := rfl
theorem zd_222_116 : z_code 222 116 = zb_222_116 := rfl
theorem zd_223_0 : z_code 223 0 = zb_223_0 := rfl
theorem zd_223_60 : z_code 223 60 = zb_223_60 := rfl
theorem zd_223_66 : z_code 223 66 = zb_223_66 := rfl
theorem zd_223_72 : z_code 223 72 = zb_223_72 := rfl
theorem zd_223_77 : z_code 223 77 = zb_223_77 := rfl
theorem zd_223_82 : z_code 223 82 = zb_223_82 := rfl
theorem zd_223_89 : z_code 223 89 = zb_223_89 := rfl
theorem zd_223_96 : z_code 223 96 = zb_223_96 := rfl
theorem zd_223_103 : z_code 223 103 = zb_223_103 := rfl
theorem zd_223_110 : z_code 223 110 = zb_223_110 := rfl
theorem zd_223_117 : z_code 223 117 = zb_223_117 := rfl
theorem zd_223_124 : z_code 223 124 = zb_223_124 := rfl
theorem zd_223_145 : z_code 223 145 = zb_223_145 := rfl
theorem zd_223_169 : z_code 223 169 = zb_223_169 := rfl
theorem zd_223_170 : z_code 223 170 = zb_223_170 := rfl
theorem zd_224_0 : z_code 224 0 = zb_224_0 := rfl
theorem zd_224_4 : z_code 224 4 = zb_224_4 := rfl
theorem zd_224_16 : z_code 224 16 = zb_224_16 := rfl
theorem zd_224_41 : z_code 224 41 = zb_224_41 := rfl
theorem zd_224_47 : z_code 224 47 = zb_224_47 := rfl
theorem zd_225_0 : z_code 225 0 = zb_225_0 := rfl
theorem zd_226_0 : z_code 226 0 = zb_226_0 := rfl
theorem zd_226_9 : z_code 226 9 = zb_226_9 := rfl
theorem zd_226_10 : z_code 226 10 = zb_226_10 := rfl
theorem zd_227_0 : z_code 227 0 = zb_227_0 := rfl
theorem zd_227_9 : z_code 227 9 = zb_227_9 := rfl
theorem zd_227_10 : z_code 227 10 = zb_227_10 := rfl
theorem zd_228_0 : z_code 228 0 = zb_228_0 := rfl
