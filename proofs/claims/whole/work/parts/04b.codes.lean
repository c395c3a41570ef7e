def cWd (k : Nat) : Cond := if (mH k).isEmpty then .code (mY k) (mB k) (mL k) (mR k) else .codeWith (mY k) (mB k) (mL k) (mR k) (mH k)
def cLp (q : Nat × Nat × Nat) : Bool := decide (lw_tbl[q.2.2]? = some (.initialized (mC q.1)) ∧ (mY q.1).cls = mC q.1) && decide (mC q.1 ≠ "java/lang/invoke/MethodHandle" ∧ mC q.1 ≠ "java/lang/invoke/VarHandle")
set_option maxRecDepth 100000 in
theorem cw0 : lw_tbl[455]? = some (cWd 0) := by rfl
set_option maxRecDepth 100000 in
theorem cw1 : lw_tbl[465]? = some (cWd 1) := by rfl
set_option maxRecDepth 100000 in
theorem cw2 : lw_tbl[461]? = some (cWd 2) := by rfl
set_option maxRecDepth 100000 in
theorem cw3 : lw_tbl[471]? = some (cWd 3) := by rfl
set_option maxRecDepth 100000 in
theorem cw4 : lw_tbl[474]? = some (cWd 4) := by rfl
set_option maxRecDepth 100000 in
theorem cw5 : lw_tbl[477]? = some (cWd 5) := by rfl
set_option maxRecDepth 100000 in
theorem cw6 : lw_tbl[480]? = some (cWd 6) := by rfl
set_option maxRecDepth 100000 in
theorem cw7 : lw_tbl[468]? = some (cWd 7) := by rfl
set_option maxRecDepth 100000 in
theorem cw8 : lw_tbl[451]? = some (cWd 8) := by rfl
set_option maxRecDepth 100000 in
theorem cw9 : lw_tbl[447]? = some (cWd 9) := by rfl
set_option maxRecDepth 100000 in
theorem cw10 : lw_tbl[786]? = some (cWd 10) := by rfl
set_option maxRecDepth 100000 in
theorem cw11 : lw_tbl[783]? = some (cWd 11) := by rfl
set_option maxRecDepth 100000 in
theorem cw12 : lw_tbl[780]? = some (cWd 12) := by rfl
set_option maxRecDepth 100000 in
theorem cw13 : lw_tbl[777]? = some (cWd 13) := by rfl
set_option maxRecDepth 100000 in
theorem cw14 : lw_tbl[1054]? = some (cWd 14) := by rfl
set_option maxRecDepth 100000 in
theorem cw15 : lw_tbl[1341]? = some (cWd 15) := by rfl
set_option maxRecDepth 100000 in
theorem cw16 : lw_tbl[1368]? = some (cWd 16) := by rfl
set_option maxRecDepth 100000 in
theorem cw17 : lw_tbl[1673]? = some (cWd 17) := by rfl
set_option maxRecDepth 100000 in
theorem cw18 : lw_tbl[1669]? = some (cWd 18) := by rfl
set_option maxRecDepth 100000 in
theorem cw19 : lw_tbl[1665]? = some (cWd 19) := by rfl
set_option maxRecDepth 100000 in
theorem cw20 : lw_tbl[1681]? = some (cWd 20) := by rfl
set_option maxRecDepth 100000 in
theorem cw21 : lw_tbl[1685]? = some (cWd 21) := by rfl
set_option maxRecDepth 100000 in
theorem cw22 : lw_tbl[1677]? = some (cWd 22) := by rfl
set_option maxRecDepth 100000 in
theorem cw23 : lw_tbl[1691]? = some (cWd 23) := by rfl
set_option maxRecDepth 100000 in
theorem cw24 : lw_tbl[1695]? = some (cWd 24) := by rfl
set_option maxRecDepth 100000 in
theorem cw25 : lw_tbl[1699]? = some (cWd 25) := by rfl
set_option maxRecDepth 100000 in
theorem cw26 : lw_tbl[1715]? = some (cWd 26) := by rfl
set_option maxRecDepth 100000 in
theorem cw27 : lw_tbl[1718]? = some (cWd 27) := by rfl
set_option maxRecDepth 100000 in
theorem cw28 : lw_tbl[1721]? = some (cWd 28) := by rfl
set_option maxRecDepth 100000 in
theorem cw29 : lw_tbl[1711]? = some (cWd 29) := by rfl
set_option maxRecDepth 100000 in
theorem cw30 : lw_tbl[1707]? = some (cWd 30) := by rfl
set_option maxRecDepth 100000 in
theorem cw31 : lw_tbl[1727]? = some (cWd 31) := by rfl
set_option maxRecDepth 100000 in
theorem cw32 : lw_tbl[1733]? = some (cWd 32) := by rfl
set_option maxRecDepth 100000 in
theorem cw33 : lw_tbl[1740]? = some (cWd 33) := by rfl
set_option maxRecDepth 100000 in
theorem cw34 : lw_tbl[1748]? = some (cWd 34) := by rfl
set_option maxRecDepth 100000 in
theorem cw35 : lw_tbl[1752]? = some (cWd 35) := by rfl
set_option maxRecDepth 100000 in
theorem cw36 : lw_tbl[1744]? = some (cWd 36) := by rfl
set_option maxRecDepth 100000 in
theorem cw37 : lw_tbl[1756]? = some (cWd 37) := by rfl
set_option maxRecDepth 100000 in
theorem cw38 : lw_tbl[1764]? = some (cWd 38) := by rfl
set_option maxRecDepth 100000 in
theorem cw39 : lw_tbl[1760]? = some (cWd 39) := by rfl
set_option maxRecDepth 100000 in
theorem cw40 : lw_tbl[1737]? = some (cWd 40) := by rfl
set_option maxRecDepth 100000 in
theorem cw41 : lw_tbl[1768]? = some (cWd 41) := by rfl
set_option maxRecDepth 100000 in
theorem cw42 : lw_tbl[1779]? = some (cWd 42) := by rfl
set_option maxRecDepth 100000 in
theorem cw43 : lw_tbl[1783]? = some (cWd 43) := by rfl
set_option maxRecDepth 100000 in
theorem cw44 : lw_tbl[1812]? = some (cWd 44) := by rfl
set_option maxRecDepth 100000 in
theorem cw45 : lw_tbl[1816]? = some (cWd 45) := by rfl
set_option maxRecDepth 100000 in
theorem cw46 : lw_tbl[1807]? = some (cWd 46) := by rfl
set_option maxRecDepth 100000 in
theorem cw47 : lw_tbl[1803]? = some (cWd 47) := by rfl
set_option maxRecDepth 100000 in
theorem cw48 : lw_tbl[1799]? = some (cWd 48) := by rfl
set_option maxRecDepth 100000 in
theorem cw49 : lw_tbl[1795]? = some (cWd 49) := by rfl
set_option maxRecDepth 100000 in
theorem cw50 : lw_tbl[1791]? = some (cWd 50) := by rfl
set_option maxRecDepth 100000 in
theorem cw51 : lw_tbl[1787]? = some (cWd 51) := by rfl
set_option maxRecDepth 100000 in
theorem cw52 : lw_tbl[1776]? = some (cWd 52) := by rfl
set_option maxRecDepth 100000 in
theorem cw53 : lw_tbl[1820]? = some (cWd 53) := by rfl
set_option maxRecDepth 100000 in
theorem cw54 : lw_tbl[1772]? = some (cWd 54) := by rfl
set_option maxRecDepth 100000 in
theorem cw55 : lw_tbl[1703]? = some (cWd 55) := by rfl
set_option maxRecDepth 100000 in
theorem cw56 : lw_tbl[1824]? = some (cWd 56) := by rfl
set_option maxRecDepth 100000 in
theorem cw57 : lw_tbl[1828]? = some (cWd 57) := by rfl
set_option maxRecDepth 100000 in
theorem cw58 : lw_tbl[1832]? = some (cWd 58) := by rfl
set_option maxRecDepth 100000 in
theorem cw59 : lw_tbl[1836]? = some (cWd 59) := by rfl
set_option maxRecDepth 100000 in
theorem cw60 : lw_tbl[1844]? = some (cWd 60) := by rfl
set_option maxRecDepth 100000 in
theorem cw61 : lw_tbl[1852]? = some (cWd 61) := by rfl
set_option maxRecDepth 100000 in
theorem cw62 : lw_tbl[1848]? = some (cWd 62) := by rfl
set_option maxRecDepth 100000 in
theorem cw63 : lw_tbl[1840]? = some (cWd 63) := by rfl
set_option maxRecDepth 100000 in
theorem cw64 : lw_tbl[1860]? = some (cWd 64) := by rfl
set_option maxRecDepth 100000 in
theorem cw65 : lw_tbl[1872]? = some (cWd 65) := by rfl
set_option maxRecDepth 100000 in
theorem cw66 : lw_tbl[1880]? = some (cWd 66) := by rfl
set_option maxRecDepth 100000 in
theorem cw67 : lw_tbl[1887]? = some (cWd 67) := by rfl
set_option maxRecDepth 100000 in
theorem cw68 : lw_tbl[1884]? = some (cWd 68) := by rfl
set_option maxRecDepth 100000 in
theorem cw69 : lw_tbl[1876]? = some (cWd 69) := by rfl
set_option maxRecDepth 100000 in
theorem cw70 : lw_tbl[1892]? = some (cWd 70) := by rfl
set_option maxRecDepth 100000 in
theorem cw71 : lw_tbl[1868]? = some (cWd 71) := by rfl
set_option maxRecDepth 100000 in
theorem cw72 : lw_tbl[1864]? = some (cWd 72) := by rfl
set_option maxRecDepth 100000 in
theorem cw73 : lw_tbl[1900]? = some (cWd 73) := by rfl
set_option maxRecDepth 100000 in
theorem cw74 : lw_tbl[1896]? = some (cWd 74) := by rfl
set_option maxRecDepth 100000 in
theorem cw75 : lw_tbl[1856]? = some (cWd 75) := by rfl
set_option maxRecDepth 100000 in
theorem cw76 : lw_tbl[1904]? = some (cWd 76) := by rfl
set_option maxRecDepth 100000 in
theorem cw77 : lw_tbl[1908]? = some (cWd 77) := by rfl
set_option maxRecDepth 100000 in
theorem cw78 : lw_tbl[1912]? = some (cWd 78) := by rfl
set_option maxRecDepth 100000 in
theorem cw79 : lw_tbl[1920]? = some (cWd 79) := by rfl
set_option maxRecDepth 100000 in
theorem cw80 : lw_tbl[1924]? = some (cWd 80) := by rfl
set_option maxRecDepth 100000 in
theorem cw81 : lw_tbl[1916]? = some (cWd 81) := by rfl
set_option maxRecDepth 100000 in
theorem cw82 : lw_tbl[1928]? = some (cWd 82) := by rfl
set_option maxRecDepth 100000 in
theorem cw83 : lw_tbl[1932]? = some (cWd 83) := by rfl
set_option maxRecDepth 100000 in
theorem cw84 : lw_tbl[1936]? = some (cWd 84) := by rfl
set_option maxRecDepth 100000 in
theorem cw85 : lw_tbl[1950]? = some (cWd 85) := by rfl
set_option maxRecDepth 100000 in
theorem cw86 : lw_tbl[1946]? = some (cWd 86) := by rfl
set_option maxRecDepth 100000 in
theorem cw87 : lw_tbl[1940]? = some (cWd 87) := by rfl
set_option maxRecDepth 100000 in
theorem cw88 : lw_tbl[1954]? = some (cWd 88) := by rfl
set_option maxRecDepth 100000 in
theorem cw89 : lw_tbl[1958]? = some (cWd 89) := by rfl
set_option maxRecDepth 100000 in
theorem cw90 : lw_tbl[1970]? = some (cWd 90) := by rfl
set_option maxRecDepth 100000 in
theorem cw91 : lw_tbl[1974]? = some (cWd 91) := by rfl
set_option maxRecDepth 100000 in
theorem cw92 : lw_tbl[1966]? = some (cWd 92) := by rfl
set_option maxRecDepth 100000 in
theorem cw93 : lw_tbl[1982]? = some (cWd 93) := by rfl
set_option maxRecDepth 100000 in
theorem cw94 : lw_tbl[1986]? = some (cWd 94) := by rfl
set_option maxRecDepth 100000 in
theorem cw95 : lw_tbl[1978]? = some (cWd 95) := by rfl
set_option maxRecDepth 100000 in
theorem cw96 : lw_tbl[1962]? = some (cWd 96) := by rfl
set_option maxRecDepth 100000 in
theorem cw97 : lw_tbl[1992]? = some (cWd 97) := by rfl
set_option maxRecDepth 100000 in
theorem cw98 : lw_tbl[1997]? = some (cWd 98) := by rfl
set_option maxRecDepth 100000 in
theorem cw99 : lw_tbl[137]? = some (cWd 99) := by rfl
set_option maxRecDepth 100000 in
theorem cw100 : lw_tbl[165]? = some (cWd 100) := by rfl
set_option maxRecDepth 100000 in
theorem cw101 : lw_tbl[207]? = some (cWd 101) := by rfl
set_option maxRecDepth 100000 in
theorem cw102 : lw_tbl[232]? = some (cWd 102) := by rfl
set_option maxRecDepth 100000 in
theorem cw103 : lw_tbl[289]? = some (cWd 103) := by rfl
set_option maxRecDepth 100000 in
theorem cw104 : lw_tbl[309]? = some (cWd 104) := by rfl
set_option maxRecDepth 100000 in
theorem cw105 : lw_tbl[337]? = some (cWd 105) := by rfl
set_option maxRecDepth 100000 in
theorem cw106 : lw_tbl[129]? = some (cWd 106) := by rfl
set_option maxRecDepth 100000 in
theorem cw107 : lw_tbl[550]? = some (cWd 107) := by rfl
set_option maxRecDepth 100000 in
theorem cw108 : lw_tbl[421]? = some (cWd 108) := by rfl
set_option maxRecDepth 100000 in
theorem cw109 : lw_tbl[425]? = some (cWd 109) := by rfl
set_option maxRecDepth 100000 in
theorem cw110 : lw_tbl[417]? = some (cWd 110) := by rfl
set_option maxRecDepth 100000 in
theorem cw111 : lw_tbl[413]? = some (cWd 111) := by rfl
set_option maxRecDepth 100000 in
theorem cw112 : lw_tbl[626]? = some (cWd 112) := by rfl
set_option maxRecDepth 100000 in
theorem cw113 : lw_tbl[623]? = some (cWd 113) := by rfl
set_option maxRecDepth 100000 in
theorem cw114 : lw_tbl[630]? = some (cWd 114) := by rfl
set_option maxRecDepth 100000 in
theorem cw115 : lw_tbl[619]? = some (cWd 115) := by rfl
set_option maxRecDepth 100000 in
theorem cw116 : lw_tbl[641]? = some (cWd 116) := by rfl
set_option maxRecDepth 100000 in
theorem cw117 : lw_tbl[637]? = some (cWd 117) := by rfl
set_option maxRecDepth 100000 in
theorem cw118 : lw_tbl[435]? = some (cWd 118) := by rfl
set_option maxRecDepth 100000 in
theorem cw119 : lw_tbl[442]? = some (cWd 119) := by rfl
set_option maxRecDepth 100000 in
theorem cw120 : lw_tbl[439]? = some (cWd 120) := by rfl
set_option maxRecDepth 100000 in
theorem cw121 : lw_tbl[431]? = some (cWd 121) := by rfl
set_option maxRecDepth 100000 in
theorem cw122 : lw_tbl[653]? = some (cWd 122) := by rfl
set_option maxRecDepth 100000 in
theorem cw123 : lw_tbl[672]? = some (cWd 123) := by rfl
set_option maxRecDepth 100000 in
theorem cw124 : lw_tbl[681]? = some (cWd 124) := by rfl
set_option maxRecDepth 100000 in
theorem cw125 : lw_tbl[676]? = some (cWd 125) := by rfl
set_option maxRecDepth 100000 in
theorem cw126 : lw_tbl[691]? = some (cWd 126) := by rfl
set_option maxRecDepth 100000 in
theorem cw127 : lw_tbl[685]? = some (cWd 127) := by rfl
set_option maxRecDepth 100000 in
theorem cw128 : lw_tbl[772]? = some (cWd 128) := by rfl
set_option maxRecDepth 100000 in
theorem cw129 : lw_tbl[768]? = some (cWd 129) := by rfl
set_option maxRecDepth 100000 in
theorem cw130 : lw_tbl[797]? = some (cWd 130) := by rfl
set_option maxRecDepth 100000 in
theorem cw131 : lw_tbl[809]? = some (cWd 131) := by rfl
set_option maxRecDepth 100000 in
theorem cw132 : lw_tbl[814]? = some (cWd 132) := by rfl
set_option maxRecDepth 100000 in
theorem cw133 : lw_tbl[818]? = some (cWd 133) := by rfl
set_option maxRecDepth 100000 in
theorem cw134 : lw_tbl[822]? = some (cWd 134) := by rfl
set_option maxRecDepth 100000 in
theorem cw135 : lw_tbl[805]? = some (cWd 135) := by rfl
set_option maxRecDepth 100000 in
theorem cw136 : lw_tbl[831]? = some (cWd 136) := by rfl
set_option maxRecDepth 100000 in
theorem cw137 : lw_tbl[826]? = some (cWd 137) := by rfl
set_option maxRecDepth 100000 in
theorem cw138 : lw_tbl[839]? = some (cWd 138) := by rfl
set_option maxRecDepth 100000 in
theorem cw139 : lw_tbl[835]? = some (cWd 139) := by rfl
set_option maxRecDepth 100000 in
theorem cw140 : lw_tbl[801]? = some (cWd 140) := by rfl
set_option maxRecDepth 100000 in
theorem cw141 : lw_tbl[854]? = some (cWd 141) := by rfl
set_option maxRecDepth 100000 in
theorem cw142 : lw_tbl[849]? = some (cWd 142) := by rfl
set_option maxRecDepth 100000 in
theorem cw143 : lw_tbl[898]? = some (cWd 143) := by rfl
set_option maxRecDepth 100000 in
theorem cw144 : lw_tbl[892]? = some (cWd 144) := by rfl
set_option maxRecDepth 100000 in
theorem cw145 : lw_tbl[888]? = some (cWd 145) := by rfl
set_option maxRecDepth 100000 in
theorem cw146 : lw_tbl[884]? = some (cWd 146) := by rfl
set_option maxRecDepth 100000 in
theorem cw147 : lw_tbl[880]? = some (cWd 147) := by rfl
set_option maxRecDepth 100000 in
theorem cw148 : lw_tbl[873]? = some (cWd 148) := by rfl
set_option maxRecDepth 100000 in
theorem cw149 : lw_tbl[869]? = some (cWd 149) := by rfl
set_option maxRecDepth 100000 in
theorem cw150 : lw_tbl[863]? = some (cWd 150) := by rfl
set_option maxRecDepth 100000 in
theorem cw151 : lw_tbl[859]? = some (cWd 151) := by rfl
set_option maxRecDepth 100000 in
theorem cw152 : lw_tbl[907]? = some (cWd 152) := by rfl
set_option maxRecDepth 100000 in
theorem cw153 : lw_tbl[911]? = some (cWd 153) := by rfl
set_option maxRecDepth 100000 in
theorem cw154 : lw_tbl[924]? = some (cWd 154) := by rfl
set_option maxRecDepth 100000 in
theorem cw155 : lw_tbl[919]? = some (cWd 155) := by rfl
set_option maxRecDepth 100000 in
theorem cw156 : lw_tbl[915]? = some (cWd 156) := by rfl
set_option maxRecDepth 100000 in
theorem cw157 : lw_tbl[843]? = some (cWd 157) := by rfl
set_option maxRecDepth 100000 in
theorem cw158 : lw_tbl[763]? = some (cWd 158) := by rfl
set_option maxRecDepth 100000 in
theorem cw159 : lw_tbl[649]? = some (cWd 159) := by rfl
set_option maxRecDepth 100000 in
theorem cw160 : lw_tbl[534]? = some (cWd 160) := by rfl
set_option maxRecDepth 100000 in
theorem cw161 : lw_tbl[932]? = some (cWd 161) := by rfl
set_option maxRecDepth 100000 in
theorem cw162 : lw_tbl[943]? = some (cWd 162) := by rfl
set_option maxRecDepth 100000 in
theorem cw163 : lw_tbl[939]? = some (cWd 163) := by rfl
set_option maxRecDepth 100000 in
theorem cw164 : lw_tbl[958]? = some (cWd 164) := by rfl
set_option maxRecDepth 100000 in
theorem cw165 : lw_tbl[954]? = some (cWd 165) := by rfl
set_option maxRecDepth 100000 in
theorem cw166 : lw_tbl[950]? = some (cWd 166) := by rfl
set_option maxRecDepth 100000 in
theorem cw167 : lw_tbl[994]? = some (cWd 167) := by rfl
set_option maxRecDepth 100000 in
theorem cw168 : lw_tbl[998]? = some (cWd 168) := by rfl
set_option maxRecDepth 100000 in
theorem cw169 : lw_tbl[1007]? = some (cWd 169) := by rfl
set_option maxRecDepth 100000 in
theorem cw170 : lw_tbl[1051]? = some (cWd 170) := by rfl
set_option maxRecDepth 100000 in
theorem cw171 : lw_tbl[1047]? = some (cWd 171) := by rfl
set_option maxRecDepth 100000 in
theorem cw172 : lw_tbl[1063]? = some (cWd 172) := by rfl
set_option maxRecDepth 100000 in
theorem cw173 : lw_tbl[1081]? = some (cWd 173) := by rfl
set_option maxRecDepth 100000 in
theorem cw174 : lw_tbl[1094]? = some (cWd 174) := by rfl
set_option maxRecDepth 100000 in
theorem cw175 : lw_tbl[1091]? = some (cWd 175) := by rfl
set_option maxRecDepth 100000 in
theorem cw176 : lw_tbl[1087]? = some (cWd 176) := by rfl
set_option maxRecDepth 100000 in
theorem cw177 : lw_tbl[1077]? = some (cWd 177) := by rfl
set_option maxRecDepth 100000 in
theorem cw178 : lw_tbl[1072]? = some (cWd 178) := by rfl
set_option maxRecDepth 100000 in
theorem cw179 : lw_tbl[1058]? = some (cWd 179) := by rfl
set_option maxRecDepth 100000 in
theorem cw180 : lw_tbl[1104]? = some (cWd 180) := by rfl
set_option maxRecDepth 100000 in
theorem cw181 : lw_tbl[1108]? = some (cWd 181) := by rfl
set_option maxRecDepth 100000 in
theorem cw182 : lw_tbl[1002]? = some (cWd 182) := by rfl
set_option maxRecDepth 100000 in
theorem cw183 : lw_tbl[1112]? = some (cWd 183) := by rfl
set_option maxRecDepth 100000 in
theorem cw184 : lw_tbl[990]? = some (cWd 184) := by rfl
set_option maxRecDepth 100000 in
theorem cw185 : lw_tbl[1123]? = some (cWd 185) := by rfl
set_option maxRecDepth 100000 in
theorem cw186 : lw_tbl[1131]? = some (cWd 186) := by rfl
set_option maxRecDepth 100000 in
theorem cw187 : lw_tbl[1139]? = some (cWd 187) := by rfl
set_option maxRecDepth 100000 in
theorem cw188 : lw_tbl[1135]? = some (cWd 188) := by rfl
set_option maxRecDepth 100000 in
theorem cw189 : lw_tbl[1143]? = some (cWd 189) := by rfl
set_option maxRecDepth 100000 in
theorem cw190 : lw_tbl[1127]? = some (cWd 190) := by rfl
set_option maxRecDepth 100000 in
theorem cw191 : lw_tbl[1157]? = some (cWd 191) := by rfl
set_option maxRecDepth 100000 in
theorem cw192 : lw_tbl[1152]? = some (cWd 192) := by rfl
set_option maxRecDepth 100000 in
theorem cw193 : lw_tbl[1147]? = some (cWd 193) := by rfl
set_option maxRecDepth 100000 in
theorem cw194 : lw_tbl[1119]? = some (cWd 194) := by rfl
set_option maxRecDepth 100000 in
theorem cw195 : lw_tbl[1168]? = some (cWd 195) := by rfl
set_option maxRecDepth 100000 in
theorem cw196 : lw_tbl[1179]? = some (cWd 196) := by rfl
set_option maxRecDepth 100000 in
theorem cw197 : lw_tbl[1175]? = some (cWd 197) := by rfl
set_option maxRecDepth 100000 in
theorem cw198 : lw_tbl[1190]? = some (cWd 198) := by rfl
set_option maxRecDepth 100000 in
theorem cw199 : lw_tbl[1186]? = some (cWd 199) := by rfl
set_option maxRecDepth 100000 in
theorem cw200 : lw_tbl[1201]? = some (cWd 200) := by rfl
set_option maxRecDepth 100000 in
theorem cw201 : lw_tbl[1211]? = some (cWd 201) := by rfl
set_option maxRecDepth 100000 in
theorem cw202 : lw_tbl[1215]? = some (cWd 202) := by rfl
set_option maxRecDepth 100000 in
theorem cw203 : lw_tbl[1205]? = some (cWd 203) := by rfl
set_option maxRecDepth 100000 in
theorem cw204 : lw_tbl[1219]? = some (cWd 204) := by rfl
set_option maxRecDepth 100000 in
theorem cw205 : lw_tbl[1231]? = some (cWd 205) := by rfl
set_option maxRecDepth 100000 in
theorem cw206 : lw_tbl[1227]? = some (cWd 206) := by rfl
set_option maxRecDepth 100000 in
theorem cw207 : lw_tbl[1223]? = some (cWd 207) := by rfl
set_option maxRecDepth 100000 in
theorem cw208 : lw_tbl[1197]? = some (cWd 208) := by rfl
set_option maxRecDepth 100000 in
theorem cw209 : lw_tbl[1238]? = some (cWd 209) := by rfl
set_option maxRecDepth 100000 in
theorem cw210 : lw_tbl[542]? = some (cWd 210) := by rfl
set_option maxRecDepth 100000 in
theorem cw211 : lw_tbl[538]? = some (cWd 211) := by rfl
set_option maxRecDepth 100000 in
theorem cw212 : lw_tbl[1249]? = some (cWd 212) := by rfl
set_option maxRecDepth 100000 in
theorem cw213 : lw_tbl[1245]? = some (cWd 213) := by rfl
set_option maxRecDepth 100000 in
theorem cw214 : lw_tbl[1264]? = some (cWd 214) := by rfl
set_option maxRecDepth 100000 in
theorem cw215 : lw_tbl[1278]? = some (cWd 215) := by rfl
set_option maxRecDepth 100000 in
theorem cw216 : lw_tbl[1274]? = some (cWd 216) := by rfl
set_option maxRecDepth 100000 in
theorem cw217 : lw_tbl[1260]? = some (cWd 217) := by rfl
set_option maxRecDepth 100000 in
theorem cw218 : lw_tbl[1256]? = some (cWd 218) := by rfl
set_option maxRecDepth 100000 in
theorem cw219 : lw_tbl[1286]? = some (cWd 219) := by rfl
set_option maxRecDepth 100000 in
theorem cw220 : lw_tbl[1293]? = some (cWd 220) := by rfl
set_option maxRecDepth 100000 in
theorem cw221 : lw_tbl[1308]? = some (cWd 221) := by rfl
set_option maxRecDepth 100000 in
theorem cw222 : lw_tbl[1319]? = some (cWd 222) := by rfl
set_option maxRecDepth 100000 in
theorem cw223 : lw_tbl[1315]? = some (cWd 223) := by rfl
set_option maxRecDepth 100000 in
theorem cw224 : lw_tbl[1304]? = some (cWd 224) := by rfl
set_option maxRecDepth 100000 in
theorem cw225 : lw_tbl[1337]? = some (cWd 225) := by rfl
set_option maxRecDepth 100000 in
theorem cw226 : lw_tbl[1333]? = some (cWd 226) := by rfl
set_option maxRecDepth 100000 in
theorem cw227 : lw_tbl[1329]? = some (cWd 227) := by rfl
set_option maxRecDepth 100000 in
theorem cw228 : lw_tbl[1325]? = some (cWd 228) := by rfl
set_option maxRecDepth 100000 in
theorem cw229 : lw_tbl[1300]? = some (cWd 229) := by rfl
set_option maxRecDepth 100000 in
theorem cw230 : lw_tbl[1353]? = some (cWd 230) := by rfl
set_option maxRecDepth 100000 in
theorem cw231 : lw_tbl[1349]? = some (cWd 231) := by rfl
set_option maxRecDepth 100000 in
theorem cw232 : lw_tbl[1363]? = some (cWd 232) := by rfl
set_option maxRecDepth 100000 in
theorem cw233 : lw_tbl[545]? = some (cWd 233) := by rfl
set_option maxRecDepth 100000 in
theorem cw234 : lw_tbl[615]? = some (cWd 234) := by rfl
set_option maxRecDepth 100000 in
theorem cw235 : lw_tbl[633]? = some (cWd 235) := by rfl
set_option maxRecDepth 100000 in
theorem cw236 : lw_tbl[644]? = some (cWd 236) := by rfl
set_option maxRecDepth 100000 in
theorem cw237 : lw_tbl[928]? = some (cWd 237) := by rfl
set_option maxRecDepth 100000 in
theorem cw238 : lw_tbl[935]? = some (cWd 238) := by rfl
set_option maxRecDepth 100000 in
theorem cw239 : lw_tbl[946]? = some (cWd 239) := by rfl
set_option maxRecDepth 100000 in
theorem cw240 : lw_tbl[986]? = some (cWd 240) := by rfl
set_option maxRecDepth 100000 in
theorem cw241 : lw_tbl[1115]? = some (cWd 241) := by rfl
set_option maxRecDepth 100000 in
theorem cw242 : lw_tbl[1164]? = some (cWd 242) := by rfl
set_option maxRecDepth 100000 in
theorem cw243 : lw_tbl[1171]? = some (cWd 243) := by rfl
set_option maxRecDepth 100000 in
theorem cw244 : lw_tbl[1182]? = some (cWd 244) := by rfl
set_option maxRecDepth 100000 in
theorem cw245 : lw_tbl[1193]? = some (cWd 245) := by rfl
set_option maxRecDepth 100000 in
theorem cw246 : lw_tbl[1234]? = some (cWd 246) := by rfl
set_option maxRecDepth 100000 in
theorem cw247 : lw_tbl[1241]? = some (cWd 247) := by rfl
set_option maxRecDepth 100000 in
theorem cw248 : lw_tbl[1252]? = some (cWd 248) := by rfl
set_option maxRecDepth 100000 in
theorem cw249 : lw_tbl[1282]? = some (cWd 249) := by rfl
set_option maxRecDepth 100000 in
theorem cw250 : lw_tbl[1289]? = some (cWd 250) := by rfl
set_option maxRecDepth 100000 in
theorem cw251 : lw_tbl[1296]? = some (cWd 251) := by rfl
set_option maxRecDepth 100000 in
theorem cw252 : lw_tbl[1345]? = some (cWd 252) := by rfl
set_option maxRecDepth 100000 in
theorem cw253 : lw_tbl[1359]? = some (cWd 253) := by rfl
theorem cw : ∀ k, k < 254 → ∃ i : Nat, lw_tbl[i]? = some (cWd k)
  | 0, _ => ⟨_, cw0⟩
  | 1, _ => ⟨_, cw1⟩
  | 2, _ => ⟨_, cw2⟩
  | 3, _ => ⟨_, cw3⟩
  | 4, _ => ⟨_, cw4⟩
  | 5, _ => ⟨_, cw5⟩
  | 6, _ => ⟨_, cw6⟩
  | 7, _ => ⟨_, cw7⟩
  | 8, _ => ⟨_, cw8⟩
  | 9, _ => ⟨_, cw9⟩
  | 10, _ => ⟨_, cw10⟩
  | 11, _ => ⟨_, cw11⟩
  | 12, _ => ⟨_, cw12⟩
  | 13, _ => ⟨_, cw13⟩
  | 14, _ => ⟨_, cw14⟩
  | 15, _ => ⟨_, cw15⟩
  | 16, _ => ⟨_, cw16⟩
  | 17, _ => ⟨_, cw17⟩
  | 18, _ => ⟨_, cw18⟩
  | 19, _ => ⟨_, cw19⟩
  | 20, _ => ⟨_, cw20⟩
  | 21, _ => ⟨_, cw21⟩
  | 22, _ => ⟨_, cw22⟩
  | 23, _ => ⟨_, cw23⟩
  | 24, _ => ⟨_, cw24⟩
  | 25, _ => ⟨_, cw25⟩
  | 26, _ => ⟨_, cw26⟩
  | 27, _ => ⟨_, cw27⟩
  | 28, _ => ⟨_, cw28⟩
  | 29, _ => ⟨_, cw29⟩
  | 30, _ => ⟨_, cw30⟩
  | 31, _ => ⟨_, cw31⟩
  | 32, _ => ⟨_, cw32⟩
  | 33, _ => ⟨_, cw33⟩
  | 34, _ => ⟨_, cw34⟩
  | 35, _ => ⟨_, cw35⟩
  | 36, _ => ⟨_, cw36⟩
  | 37, _ => ⟨_, cw37⟩
  | 38, _ => ⟨_, cw38⟩
  | 39, _ => ⟨_, cw39⟩
  | 40, _ => ⟨_, cw40⟩
  | 41, _ => ⟨_, cw41⟩
  | 42, _ => ⟨_, cw42⟩
  | 43, _ => ⟨_, cw43⟩
  | 44, _ => ⟨_, cw44⟩
  | 45, _ => ⟨_, cw45⟩
  | 46, _ => ⟨_, cw46⟩
  | 47, _ => ⟨_, cw47⟩
  | 48, _ => ⟨_, cw48⟩
  | 49, _ => ⟨_, cw49⟩
  | 50, _ => ⟨_, cw50⟩
  | 51, _ => ⟨_, cw51⟩
  | 52, _ => ⟨_, cw52⟩
  | 53, _ => ⟨_, cw53⟩
  | 54, _ => ⟨_, cw54⟩
  | 55, _ => ⟨_, cw55⟩
  | 56, _ => ⟨_, cw56⟩
  | 57, _ => ⟨_, cw57⟩
  | 58, _ => ⟨_, cw58⟩
  | 59, _ => ⟨_, cw59⟩
  | 60, _ => ⟨_, cw60⟩
  | 61, _ => ⟨_, cw61⟩
  | 62, _ => ⟨_, cw62⟩
  | 63, _ => ⟨_, cw63⟩
  | 64, _ => ⟨_, cw64⟩
  | 65, _ => ⟨_, cw65⟩
  | 66, _ => ⟨_, cw66⟩
  | 67, _ => ⟨_, cw67⟩
  | 68, _ => ⟨_, cw68⟩
  | 69, _ => ⟨_, cw69⟩
  | 70, _ => ⟨_, cw70⟩
  | 71, _ => ⟨_, cw71⟩
  | 72, _ => ⟨_, cw72⟩
  | 73, _ => ⟨_, cw73⟩
  | 74, _ => ⟨_, cw74⟩
  | 75, _ => ⟨_, cw75⟩
  | 76, _ => ⟨_, cw76⟩
  | 77, _ => ⟨_, cw77⟩
  | 78, _ => ⟨_, cw78⟩
  | 79, _ => ⟨_, cw79⟩
  | 80, _ => ⟨_, cw80⟩
  | 81, _ => ⟨_, cw81⟩
  | 82, _ => ⟨_, cw82⟩
  | 83, _ => ⟨_, cw83⟩
  | 84, _ => ⟨_, cw84⟩
  | 85, _ => ⟨_, cw85⟩
  | 86, _ => ⟨_, cw86⟩
  | 87, _ => ⟨_, cw87⟩
  | 88, _ => ⟨_, cw88⟩
  | 89, _ => ⟨_, cw89⟩
  | 90, _ => ⟨_, cw90⟩
  | 91, _ => ⟨_, cw91⟩
  | 92, _ => ⟨_, cw92⟩
  | 93, _ => ⟨_, cw93⟩
  | 94, _ => ⟨_, cw94⟩
  | 95, _ => ⟨_, cw95⟩
  | 96, _ => ⟨_, cw96⟩
  | 97, _ => ⟨_, cw97⟩
  | 98, _ => ⟨_, cw98⟩
  | 99, _ => ⟨_, cw99⟩
  | 100, _ => ⟨_, cw100⟩
  | 101, _ => ⟨_, cw101⟩
  | 102, _ => ⟨_, cw102⟩
  | 103, _ => ⟨_, cw103⟩
  | 104, _ => ⟨_, cw104⟩
  | 105, _ => ⟨_, cw105⟩
  | 106, _ => ⟨_, cw106⟩
  | 107, _ => ⟨_, cw107⟩
  | 108, _ => ⟨_, cw108⟩
  | 109, _ => ⟨_, cw109⟩
  | 110, _ => ⟨_, cw110⟩
  | 111, _ => ⟨_, cw111⟩
  | 112, _ => ⟨_, cw112⟩
  | 113, _ => ⟨_, cw113⟩
  | 114, _ => ⟨_, cw114⟩
  | 115, _ => ⟨_, cw115⟩
  | 116, _ => ⟨_, cw116⟩
  | 117, _ => ⟨_, cw117⟩
  | 118, _ => ⟨_, cw118⟩
  | 119, _ => ⟨_, cw119⟩
  | 120, _ => ⟨_, cw120⟩
  | 121, _ => ⟨_, cw121⟩
  | 122, _ => ⟨_, cw122⟩
  | 123, _ => ⟨_, cw123⟩
  | 124, _ => ⟨_, cw124⟩
  | 125, _ => ⟨_, cw125⟩
  | 126, _ => ⟨_, cw126⟩
  | 127, _ => ⟨_, cw127⟩
  | 128, _ => ⟨_, cw128⟩
  | 129, _ => ⟨_, cw129⟩
  | 130, _ => ⟨_, cw130⟩
  | 131, _ => ⟨_, cw131⟩
  | 132, _ => ⟨_, cw132⟩
  | 133, _ => ⟨_, cw133⟩
  | 134, _ => ⟨_, cw134⟩
  | 135, _ => ⟨_, cw135⟩
  | 136, _ => ⟨_, cw136⟩
  | 137, _ => ⟨_, cw137⟩
  | 138, _ => ⟨_, cw138⟩
  | 139, _ => ⟨_, cw139⟩
  | 140, _ => ⟨_, cw140⟩
  | 141, _ => ⟨_, cw141⟩
  | 142, _ => ⟨_, cw142⟩
  | 143, _ => ⟨_, cw143⟩
  | 144, _ => ⟨_, cw144⟩
  | 145, _ => ⟨_, cw145⟩
  | 146, _ => ⟨_, cw146⟩
  | 147, _ => ⟨_, cw147⟩
  | 148, _ => ⟨_, cw148⟩
  | 149, _ => ⟨_, cw149⟩
  | 150, _ => ⟨_, cw150⟩
  | 151, _ => ⟨_, cw151⟩
  | 152, _ => ⟨_, cw152⟩
  | 153, _ => ⟨_, cw153⟩
  | 154, _ => ⟨_, cw154⟩
  | 155, _ => ⟨_, cw155⟩
  | 156, _ => ⟨_, cw156⟩
  | 157, _ => ⟨_, cw157⟩
  | 158, _ => ⟨_, cw158⟩
  | 159, _ => ⟨_, cw159⟩
  | 160, _ => ⟨_, cw160⟩
  | 161, _ => ⟨_, cw161⟩
  | 162, _ => ⟨_, cw162⟩
  | 163, _ => ⟨_, cw163⟩
  | 164, _ => ⟨_, cw164⟩
  | 165, _ => ⟨_, cw165⟩
  | 166, _ => ⟨_, cw166⟩
  | 167, _ => ⟨_, cw167⟩
  | 168, _ => ⟨_, cw168⟩
  | 169, _ => ⟨_, cw169⟩
  | 170, _ => ⟨_, cw170⟩
  | 171, _ => ⟨_, cw171⟩
  | 172, _ => ⟨_, cw172⟩
  | 173, _ => ⟨_, cw173⟩
  | 174, _ => ⟨_, cw174⟩
  | 175, _ => ⟨_, cw175⟩
  | 176, _ => ⟨_, cw176⟩
  | 177, _ => ⟨_, cw177⟩
  | 178, _ => ⟨_, cw178⟩
  | 179, _ => ⟨_, cw179⟩
  | 180, _ => ⟨_, cw180⟩
  | 181, _ => ⟨_, cw181⟩
  | 182, _ => ⟨_, cw182⟩
  | 183, _ => ⟨_, cw183⟩
  | 184, _ => ⟨_, cw184⟩
  | 185, _ => ⟨_, cw185⟩
  | 186, _ => ⟨_, cw186⟩
  | 187, _ => ⟨_, cw187⟩
  | 188, _ => ⟨_, cw188⟩
  | 189, _ => ⟨_, cw189⟩
  | 190, _ => ⟨_, cw190⟩
  | 191, _ => ⟨_, cw191⟩
  | 192, _ => ⟨_, cw192⟩
  | 193, _ => ⟨_, cw193⟩
  | 194, _ => ⟨_, cw194⟩
  | 195, _ => ⟨_, cw195⟩
  | 196, _ => ⟨_, cw196⟩
  | 197, _ => ⟨_, cw197⟩
  | 198, _ => ⟨_, cw198⟩
  | 199, _ => ⟨_, cw199⟩
  | 200, _ => ⟨_, cw200⟩
  | 201, _ => ⟨_, cw201⟩
  | 202, _ => ⟨_, cw202⟩
  | 203, _ => ⟨_, cw203⟩
  | 204, _ => ⟨_, cw204⟩
  | 205, _ => ⟨_, cw205⟩
  | 206, _ => ⟨_, cw206⟩
  | 207, _ => ⟨_, cw207⟩
  | 208, _ => ⟨_, cw208⟩
  | 209, _ => ⟨_, cw209⟩
  | 210, _ => ⟨_, cw210⟩
  | 211, _ => ⟨_, cw211⟩
  | 212, _ => ⟨_, cw212⟩
  | 213, _ => ⟨_, cw213⟩
  | 214, _ => ⟨_, cw214⟩
  | 215, _ => ⟨_, cw215⟩
  | 216, _ => ⟨_, cw216⟩
  | 217, _ => ⟨_, cw217⟩
  | 218, _ => ⟨_, cw218⟩
  | 219, _ => ⟨_, cw219⟩
  | 220, _ => ⟨_, cw220⟩
  | 221, _ => ⟨_, cw221⟩
  | 222, _ => ⟨_, cw222⟩
  | 223, _ => ⟨_, cw223⟩
  | 224, _ => ⟨_, cw224⟩
  | 225, _ => ⟨_, cw225⟩
  | 226, _ => ⟨_, cw226⟩
  | 227, _ => ⟨_, cw227⟩
  | 228, _ => ⟨_, cw228⟩
  | 229, _ => ⟨_, cw229⟩
  | 230, _ => ⟨_, cw230⟩
  | 231, _ => ⟨_, cw231⟩
  | 232, _ => ⟨_, cw232⟩
  | 233, _ => ⟨_, cw233⟩
  | 234, _ => ⟨_, cw234⟩
  | 235, _ => ⟨_, cw235⟩
  | 236, _ => ⟨_, cw236⟩
  | 237, _ => ⟨_, cw237⟩
  | 238, _ => ⟨_, cw238⟩
  | 239, _ => ⟨_, cw239⟩
  | 240, _ => ⟨_, cw240⟩
  | 241, _ => ⟨_, cw241⟩
  | 242, _ => ⟨_, cw242⟩
  | 243, _ => ⟨_, cw243⟩
  | 244, _ => ⟨_, cw244⟩
  | 245, _ => ⟨_, cw245⟩
  | 246, _ => ⟨_, cw246⟩
  | 247, _ => ⟨_, cw247⟩
  | 248, _ => ⟨_, cw248⟩
  | 249, _ => ⟨_, cw249⟩
  | 250, _ => ⟨_, cw250⟩
  | 251, _ => ⟨_, cw251⟩
  | 252, _ => ⟨_, cw252⟩
  | 253, _ => ⟨_, cw253⟩
  | n + 254, h => absurd h (by omega)
theorem cL_ok0 : ((cL_.drop 0).take 40).all cLp = true := by decide +kernel
theorem cL_ok40 : ((cL_.drop 40).take 40).all cLp = true := by decide +kernel
theorem cL_ok80 : ((cL_.drop 80).take 40).all cLp = true := by decide +kernel
theorem cL_ok120 : ((cL_.drop 120).take 40).all cLp = true := by decide +kernel
theorem cL_ok160 : ((cL_.drop 160).take 40).all cLp = true := by decide +kernel
theorem cL_ok200 : ((cL_.drop 200).take 40).all cLp = true := by decide +kernel
theorem cL_ok240 : ((cL_.drop 240).take 40).all cLp = true := by decide +kernel
theorem cL_ok : cL_.all cLp = true := by
  exact (all_td 0 40 cL_ok0 (all_td 40 40 cL_ok40 (all_td 80 40 cL_ok80 (all_td 120 40 cL_ok120 (all_td 160 40 cL_ok160 (all_td 200 40 cL_ok200 (all_td 240 40 cL_ok240 (by decide +kernel : (cL_.drop 280).all cLp = true))))))))
theorem plF0 : plainFor (mY 0) = true := by decide +kernel
theorem plF1 : plainFor (mY 1) = true := by decide +kernel
theorem plF2 : plainFor (mY 2) = true := by decide +kernel
theorem plF3 : plainFor (mY 3) = true := by decide +kernel
theorem plF4 : plainFor (mY 4) = true := by decide +kernel
theorem plF5 : plainFor (mY 5) = true := by decide +kernel
theorem plF6 : plainFor (mY 6) = true := by decide +kernel
theorem plF7 : plainFor (mY 7) = true := by decide +kernel
theorem plF8 : plainFor (mY 8) = true := by decide +kernel
theorem plF9 : plainFor (mY 9) = true := by decide +kernel
theorem plF10 : plainFor (mY 10) = true := by decide +kernel
theorem plF11 : plainFor (mY 11) = true := by decide +kernel
theorem plF12 : plainFor (mY 12) = true := by decide +kernel
theorem plF13 : plainFor (mY 13) = true := by decide +kernel
theorem plF14 : plainFor (mY 14) = true := by decide +kernel
theorem plF15 : plainFor (mY 15) = true := by decide +kernel
theorem plN : ((List.range 255).all fun k => decide (k < 16) || plainName (mY k).cls) = true := by decide +kernel
theorem plF : ∀ k, k < 255 → plainFor (mY k) = true
  | 0, _ => plF0
  | 1, _ => plF1
  | 2, _ => plF2
  | 3, _ => plF3
  | 4, _ => plF4
  | 5, _ => plF5
  | 6, _ => plF6
  | 7, _ => plF7
  | 8, _ => plF8
  | 9, _ => plF9
  | 10, _ => plF10
  | 11, _ => plF11
  | 12, _ => plF12
  | 13, _ => plF13
  | 14, _ => plF14
  | 15, _ => plF15
  | n + 16, h => by
    have h1 := List.all_eq_true.mp plN (n + 16) (List.mem_range.mpr h)
    rw [Bool.or_eq_true] at h1
    rcases h1 with h1 | h1
    · exact absurd (of_decide_eq_true h1) (by omega)
    · exact plainFor_of_name h1
