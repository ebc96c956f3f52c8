/-! every entry of the code tables is what the bytes decode to, and fits its links: printed by wip/whole/gen/tables.py -/
set_option maxRecDepth 100000 in
theorem gn_ok0 : ∀ pc, pc < 43 → gn_okO 0 pc (gn_c0 pc) = true := by decide +kernel
set_option maxRecDepth 100000 in
theorem gn_ok1 : ∀ pc, pc < 39 → gn_okO 1 pc (gn_c1 pc) = true := by decide +kernel
set_option maxRecDepth 100000 in
theorem gn_ok2 : ∀ pc, pc < 40 → gn_okO 2 pc (gn_c2 pc) = true := by decide +kernel
set_option maxRecDepth 100000 in
theorem gn_ok3 : ∀ pc, pc < 92 → gn_okO 3 pc (gn_c3 pc) = true := by decide +kernel
set_option maxRecDepth 100000 in
theorem gn_ok4 : ∀ pc, pc < 43 → gn_okO 4 pc (gn_c4 pc) = true := by decide +kernel
set_option maxRecDepth 100000 in
theorem gn_ok5 : ∀ pc, pc < 35 → gn_okO 5 pc (gn_c5 pc) = true := by decide +kernel
set_option maxRecDepth 100000 in
theorem gn_ok6 : ∀ pc, pc < 40 → gn_okO 6 pc (gn_c6 pc) = true := by decide +kernel
set_option maxRecDepth 100000 in
theorem gn_ok7 : ∀ pc, pc < 55 → gn_okO 7 pc (gn_c7 pc) = true := by decide +kernel
set_option maxRecDepth 100000 in
theorem gn_ok8 : ∀ pc, pc < 53 → gn_okO 8 pc (gn_c8 pc) = true := by decide +kernel
set_option maxRecDepth 100000 in
theorem gn_ok9 : ∀ pc, pc < 29 → gn_okO 9 pc (gn_c9 pc) = true := by decide +kernel
set_option maxRecDepth 100000 in
theorem gn_ok10 : ∀ pc, pc < 24 → gn_okO 10 pc (gn_c10 pc) = true := by decide +kernel
set_option maxRecDepth 100000 in
theorem gn_ok11 : ∀ pc, pc < 38 → gn_okO 11 pc (gn_c11 pc) = true := by decide +kernel
set_option maxRecDepth 100000 in
theorem gn_ok12 : ∀ pc, pc < 17 → gn_okO 12 pc (gn_c12 pc) = true := by decide +kernel
set_option maxRecDepth 100000 in
theorem gn_ok13 : ∀ pc, pc < 94 → gn_okO 13 pc (gn_c13 pc) = true := by decide +kernel
set_option maxRecDepth 100000 in
theorem gn_ok14 : ∀ pc, pc < 16 → gn_okO 14 pc (gn_c14 pc) = true := by decide +kernel
set_option maxRecDepth 100000 in
theorem gn_ok15 : ∀ pc, pc < 20 → gn_okO 15 pc (gn_c15 pc) = true := by decide +kernel
set_option maxRecDepth 100000 in
theorem gn_ok16 : ∀ pc, pc < 21 → gn_okO 16 pc (gn_c16 pc) = true := by decide +kernel
set_option maxRecDepth 100000 in
theorem gn_ok17 : ∀ pc, pc < 21 → gn_okO 17 pc (gn_c17 pc) = true := by decide +kernel
set_option maxRecDepth 100000 in
theorem gn_ok18 : ∀ pc, pc < 23 → gn_okO 18 pc (gn_c18 pc) = true := by decide +kernel
set_option maxRecDepth 100000 in
theorem gn_ok19 : ∀ pc, pc < 8 → gn_okO 19 pc (gn_c19 pc) = true := by decide +kernel
set_option maxRecDepth 100000 in
theorem gn_ok20 : ∀ pc, pc < 8 → gn_okO 20 pc (gn_c20 pc) = true := by decide +kernel
set_option maxRecDepth 100000 in
theorem gn_ok21 : ∀ pc, pc < 8 → gn_okO 21 pc (gn_c21 pc) = true := by decide +kernel
set_option maxRecDepth 100000 in
theorem gn_ok22 : ∀ pc, pc < 8 → gn_okO 22 pc (gn_c22 pc) = true := by decide +kernel
set_option maxRecDepth 100000 in
theorem gn_ok23 : ∀ pc, pc < 8 → gn_okO 23 pc (gn_c23 pc) = true := by decide +kernel
set_option maxRecDepth 100000 in
theorem gn_ok24 : ∀ pc, pc < 8 → gn_okO 24 pc (gn_c24 pc) = true := by decide +kernel
set_option maxRecDepth 100000 in
theorem gn_ok25 : ∀ pc, pc < 27 → gn_okO 25 pc (gn_c25 pc) = true := by decide +kernel
set_option maxRecDepth 100000 in
theorem gn_ok26 : ∀ pc, pc < 12 → gn_okO 26 pc (gn_c26 pc) = true := by decide +kernel
set_option maxRecDepth 100000 in
theorem gn_ok27 : ∀ pc, pc < 27 → gn_okO 27 pc (gn_c27 pc) = true := by decide +kernel
set_option maxRecDepth 100000 in
theorem gn_ok28 : ∀ pc, pc < 32 → gn_okO 28 pc (gn_c28 pc) = true := by decide +kernel
set_option maxRecDepth 100000 in
theorem gn_ok29 : ∀ pc, pc < 31 → gn_okO 29 pc (gn_c29 pc) = true := by decide +kernel
set_option maxRecDepth 100000 in
theorem gn_ok30 : ∀ pc, pc < 22 → gn_okO 30 pc (gn_c30 pc) = true := by decide +kernel
set_option maxRecDepth 100000 in
theorem gn_ok31 : ∀ pc, pc < 39 → gn_okO 31 pc (gn_c31 pc) = true := by decide +kernel
set_option maxRecDepth 100000 in
theorem gn_ok32 : ∀ pc, pc < 24 → gn_okO 32 pc (gn_c32 pc) = true := by decide +kernel
set_option maxRecDepth 100000 in
theorem gn_ok33 : ∀ pc, pc < 46 → gn_okO 33 pc (gn_c33 pc) = true := by decide +kernel
set_option maxRecDepth 100000 in
theorem gn_ok34 : ∀ pc, pc < 22 → gn_okO 34 pc (gn_c34 pc) = true := by decide +kernel
set_option maxRecDepth 100000 in
theorem gn_ok35 : ∀ pc, pc < 62 → gn_okO 35 pc (gn_c35 pc) = true := by decide +kernel
set_option maxRecDepth 100000 in
theorem gn_ok36 : ∀ pc, pc < 68 → gn_okO 36 pc (gn_c36 pc) = true := by decide +kernel
set_option maxRecDepth 100000 in
theorem gn_ok37 : ∀ pc, pc < 35 → gn_okO 37 pc (gn_c37 pc) = true := by decide +kernel
set_option maxRecDepth 100000 in
theorem gn_ok38 : ∀ pc, pc < 16 → gn_okO 38 pc (gn_c38 pc) = true := by decide +kernel
set_option maxRecDepth 100000 in
theorem gn_ok39 : ∀ pc, pc < 46 → gn_okO 39 pc (gn_c39 pc) = true := by decide +kernel
set_option maxRecDepth 100000 in
theorem gn_ok40 : ∀ pc, pc < 56 → gn_okO 40 pc (gn_c40 pc) = true := by decide +kernel
set_option maxRecDepth 100000 in
theorem gn_ok41 : ∀ pc, pc < 6 → gn_okO 41 pc (gn_c41 pc) = true := by decide +kernel
set_option maxRecDepth 100000 in
theorem gn_ok42 : ∀ pc, pc < 50 → gn_okO 42 pc (gn_c42 pc) = true := by decide +kernel
set_option maxRecDepth 100000 in
theorem gn_ok43 : ∀ pc, pc < 62 → gn_okO 43 pc (gn_c43 pc) = true := by decide +kernel
set_option maxRecDepth 100000 in
theorem gn_ok44 : ∀ pc, pc < 121 → gn_okO 44 pc (gn_c44 pc) = true := by decide +kernel
set_option maxRecDepth 100000 in
theorem gn_ok45 : ∀ pc, pc < 91 → gn_okO 45 pc (gn_c45 pc) = true := by decide +kernel
set_option maxRecDepth 100000 in
theorem gn_ok46 : ∀ pc, pc < 93 → gn_okO 46 pc (gn_c46 pc) = true := by decide +kernel
set_option maxRecDepth 100000 in
theorem gn_ok47 : ∀ pc, pc < 77 → gn_okO 47 pc (gn_c47 pc) = true := by decide +kernel
set_option maxRecDepth 100000 in
theorem gn_ok48 : ∀ pc, pc < 156 → gn_okO 48 pc (gn_c48 pc) = true := by decide +kernel
set_option maxRecDepth 100000 in
theorem gn_ok49 : ∀ pc, pc < 23 → gn_okO 49 pc (gn_c49 pc) = true := by decide +kernel
set_option maxRecDepth 100000 in
theorem gn_ok50 : ∀ pc, pc < 34 → gn_okO 50 pc (gn_c50 pc) = true := by decide +kernel
set_option maxRecDepth 100000 in
theorem gn_ok51 : ∀ pc, pc < 52 → gn_okO 51 pc (gn_c51 pc) = true := by decide +kernel
set_option maxRecDepth 100000 in
theorem gn_ok52 : ∀ pc, pc < 21 → gn_okO 52 pc (gn_c52 pc) = true := by decide +kernel
set_option maxRecDepth 100000 in
theorem gn_ok53 : ∀ pc, pc < 86 → gn_okO 53 pc (gn_c53 pc) = true := by decide +kernel
set_option maxRecDepth 100000 in
theorem gn_ok54 : ∀ pc, pc < 31 → gn_okO 54 pc (gn_c54 pc) = true := by decide +kernel
set_option maxRecDepth 100000 in
theorem gn_ok55 : ∀ pc, pc < 97 → gn_okO 55 pc (gn_c55 pc) = true := by decide +kernel
set_option maxRecDepth 100000 in
theorem gn_ok56 : ∀ pc, pc < 50 → gn_okO 56 pc (gn_c56 pc) = true := by decide +kernel
set_option maxRecDepth 100000 in
theorem gn_ok57 : ∀ pc, pc < 32 → gn_okO 57 pc (gn_c57 pc) = true := by decide +kernel
set_option maxRecDepth 100000 in
theorem gn_ok58 : ∀ pc, pc < 121 → gn_okO 58 pc (gn_c58 pc) = true := by decide +kernel
set_option maxRecDepth 100000 in
theorem gn_ok59 : ∀ pc, pc < 46 → gn_okO 59 pc (gn_c59 pc) = true := by decide +kernel
set_option maxRecDepth 100000 in
theorem gn_ok60 : ∀ pc, pc < 30 → gn_okO 60 pc (gn_c60 pc) = true := by decide +kernel
set_option maxRecDepth 100000 in
theorem gn_ok61 : ∀ pc, pc < 18 → gn_okO 61 pc (gn_c61 pc) = true := by decide +kernel
set_option maxRecDepth 100000 in
theorem gn_ok62 : ∀ pc, pc < 18 → gn_okO 62 pc (gn_c62 pc) = true := by decide +kernel
set_option maxRecDepth 100000 in
theorem gn_ok63 : ∀ pc, pc < 21 → gn_okO 63 pc (gn_c63 pc) = true := by decide +kernel
set_option maxRecDepth 100000 in
theorem gn_ok64 : ∀ pc, pc < 51 → gn_okO 64 pc (gn_c64 pc) = true := by decide +kernel
set_option maxRecDepth 100000 in
theorem gn_ok65 : ∀ pc, pc < 87 → gn_okO 65 pc (gn_c65 pc) = true := by decide +kernel
set_option maxRecDepth 100000 in
theorem gn_ok66 : ∀ pc, pc < 40 → gn_okO 66 pc (gn_c66 pc) = true := by decide +kernel
set_option maxRecDepth 100000 in
theorem gn_ok67 : ∀ pc, pc < 18 → gn_okO 67 pc (gn_c67 pc) = true := by decide +kernel
set_option maxRecDepth 100000 in
theorem gn_ok68 : ∀ pc, pc < 18 → gn_okO 68 pc (gn_c68 pc) = true := by decide +kernel
set_option maxRecDepth 100000 in
theorem gn_ok69 : ∀ pc, pc < 32 → gn_okO 69 pc (gn_c69 pc) = true := by decide +kernel
set_option maxRecDepth 100000 in
theorem gn_ok70 : ∀ pc, pc < 19 → gn_okO 70 pc (gn_c70 pc) = true := by decide +kernel
set_option maxRecDepth 100000 in
theorem gn_ok71 : ∀ pc, pc < 19 → gn_okO 71 pc (gn_c71 pc) = true := by decide +kernel
set_option maxRecDepth 100000 in
theorem gn_ok72 : ∀ pc, pc < 25 → gn_okO 72 pc (gn_c72 pc) = true := by decide +kernel
set_option maxRecDepth 100000 in
theorem gn_ok73 : ∀ pc, pc < 25 → gn_okO 73 pc (gn_c73 pc) = true := by decide +kernel
set_option maxRecDepth 100000 in
theorem gn_ok74 : ∀ pc, pc < 19 → gn_okO 74 pc (gn_c74 pc) = true := by decide +kernel
set_option maxRecDepth 100000 in
theorem gn_ok75 : ∀ pc, pc < 19 → gn_okO 75 pc (gn_c75 pc) = true := by decide +kernel
set_option maxRecDepth 100000 in
theorem gn_ok76 : ∀ pc, pc < 17 → gn_okO 76 pc (gn_c76 pc) = true := by decide +kernel
set_option maxRecDepth 100000 in
theorem gn_ok77 : ∀ pc, pc < 80 → gn_okO 77 pc (gn_c77 pc) = true := by decide +kernel
set_option maxRecDepth 100000 in
theorem gn_ok78 : ∀ pc, pc < 57 → gn_okO 78 pc (gn_c78 pc) = true := by decide +kernel
set_option maxRecDepth 100000 in
theorem gn_ok79 : ∀ pc, pc < 24 → gn_okO 79 pc (gn_c79 pc) = true := by decide +kernel
set_option maxRecDepth 100000 in
theorem gn_ok80 : ∀ pc, pc < 41 → gn_okO 80 pc (gn_c80 pc) = true := by decide +kernel
set_option maxRecDepth 100000 in
theorem gn_ok81 : ∀ pc, pc < 36 → gn_okO 81 pc (gn_c81 pc) = true := by decide +kernel
set_option maxRecDepth 100000 in
theorem gn_ok82 : ∀ pc, pc < 35 → gn_okO 82 pc (gn_c82 pc) = true := by decide +kernel
set_option maxRecDepth 100000 in
theorem gn_ok83 : ∀ pc, pc < 19 → gn_okO 83 pc (gn_c83 pc) = true := by decide +kernel
set_option maxRecDepth 100000 in
theorem gn_ok84 : ∀ pc, pc < 18 → gn_okO 84 pc (gn_c84 pc) = true := by decide +kernel
set_option maxRecDepth 100000 in
theorem gn_ok85 : ∀ pc, pc < 32 → gn_okO 85 pc (gn_c85 pc) = true := by decide +kernel
set_option maxRecDepth 100000 in
theorem gn_ok86 : ∀ pc, pc < 45 → gn_okO 86 pc (gn_c86 pc) = true := by decide +kernel
set_option maxRecDepth 100000 in
theorem gn_ok87 : ∀ pc, pc < 50 → gn_okO 87 pc (gn_c87 pc) = true := by decide +kernel
set_option maxRecDepth 100000 in
theorem gn_ok88 : ∀ pc, pc < 110 → gn_okO 88 pc (gn_c88 pc) = true := by decide +kernel
set_option maxRecDepth 100000 in
theorem gn_ok89 : ∀ pc, pc < 72 → gn_okO 89 pc (gn_c89 pc) = true := by decide +kernel
set_option maxRecDepth 100000 in
theorem gn_ok90 : ∀ pc, pc < 14 → gn_okO 90 pc (gn_c90 pc) = true := by decide +kernel
set_option maxRecDepth 100000 in
theorem gn_ok91 : ∀ pc, pc < 57 → gn_okO 91 pc (gn_c91 pc) = true := by decide +kernel
set_option maxRecDepth 100000 in
theorem gn_ok92 : ∀ pc, pc < 38 → gn_okO 92 pc (gn_c92 pc) = true := by decide +kernel
set_option maxRecDepth 100000 in
theorem gn_ok93 : ∀ pc, pc < 108 → gn_okO 93 pc (gn_c93 pc) = true := by decide +kernel
set_option maxRecDepth 100000 in
theorem gn_ok94 : ∀ pc, pc < 8 → gn_okO 94 pc (gn_c94 pc) = true := by decide +kernel
set_option maxRecDepth 100000 in
theorem gn_ok95 : ∀ pc, pc < 267 → gn_okO 95 pc (gn_c95 pc) = true := by decide +kernel
set_option maxRecDepth 100000 in
theorem gn_ok96 : ∀ pc, pc < 109 → gn_okO 96 pc (gn_c96 pc) = true := by decide +kernel
set_option maxRecDepth 100000 in
theorem gn_ok97 : ∀ pc, pc < 59 → gn_okO 97 pc (gn_c97 pc) = true := by decide +kernel
set_option maxRecDepth 100000 in
theorem gn_ok98 : ∀ pc, pc < 70 → gn_okO 98 pc (gn_c98 pc) = true := by decide +kernel
set_option maxRecDepth 100000 in
theorem gn_ok99 : ∀ pc, pc < 52 → gn_okO 99 pc (gn_c99 pc) = true := by decide +kernel
set_option maxRecDepth 100000 in
theorem gn_ok100 : ∀ pc, pc < 65 → gn_okO 100 pc (gn_c100 pc) = true := by decide +kernel
set_option maxRecDepth 100000 in
theorem gn_ok101 : ∀ pc, pc < 63 → gn_okO 101 pc (gn_c101 pc) = true := by decide +kernel
set_option maxRecDepth 100000 in
theorem gn_ok102 : ∀ pc, pc < 56 → gn_okO 102 pc (gn_c102 pc) = true := by decide +kernel
set_option maxRecDepth 100000 in
theorem gn_ok103 : ∀ pc, pc < 55 → gn_okO 103 pc (gn_c103 pc) = true := by decide +kernel
set_option maxRecDepth 100000 in
theorem gn_ok104 : ∀ pc, pc < 59 → gn_okO 104 pc (gn_c104 pc) = true := by decide +kernel
set_option maxRecDepth 100000 in
theorem gn_ok105 : ∀ pc, pc < 70 → gn_okO 105 pc (gn_c105 pc) = true := by decide +kernel
set_option maxRecDepth 100000 in
theorem gn_ok106 : ∀ pc, pc < 48 → gn_okO 106 pc (gn_c106 pc) = true := by decide +kernel
set_option maxRecDepth 100000 in
theorem gn_ok107 : ∀ pc, pc < 46 → gn_okO 107 pc (gn_c107 pc) = true := by decide +kernel
set_option maxRecDepth 100000 in
theorem gn_ok108 : ∀ pc, pc < 77 → gn_okO 108 pc (gn_c108 pc) = true := by decide +kernel
set_option maxRecDepth 100000 in
theorem gn_ok109 : ∀ pc, pc < 58 → gn_okO 109 pc (gn_c109 pc) = true := by decide +kernel
set_option maxRecDepth 100000 in
theorem gn_ok110 : ∀ pc, pc < 54 → gn_okO 110 pc (gn_c110 pc) = true := by decide +kernel
set_option maxRecDepth 100000 in
theorem gn_ok111 : ∀ pc, pc < 100 → gn_okO 111 pc (gn_c111 pc) = true := by decide +kernel
set_option maxRecDepth 100000 in
theorem gn_ok112 : ∀ pc, pc < 30 → gn_okO 112 pc (gn_c112 pc) = true := by decide +kernel
set_option maxRecDepth 100000 in
theorem gn_ok113 : ∀ pc, pc < 21 → gn_okO 113 pc (gn_c113 pc) = true := by decide +kernel
set_option maxRecDepth 100000 in
theorem gn_ok114 : ∀ pc, pc < 54 → gn_okO 114 pc (gn_c114 pc) = true := by decide +kernel
set_option maxRecDepth 100000 in
theorem gn_ok115 : ∀ pc, pc < 35 → gn_okO 115 pc (gn_c115 pc) = true := by decide +kernel
set_option maxRecDepth 100000 in
theorem gn_ok116 : ∀ pc, pc < 12 → gn_okO 116 pc (gn_c116 pc) = true := by decide +kernel
set_option maxRecDepth 100000 in
theorem gn_ok117 : ∀ pc, pc < 12 → gn_okO 117 pc (gn_c117 pc) = true := by decide +kernel
set_option maxRecDepth 100000 in
theorem gn_ok118 : ∀ pc, pc < 55 → gn_okO 118 pc (gn_c118 pc) = true := by decide +kernel
set_option maxRecDepth 100000 in
theorem gn_ok119 : ∀ pc, pc < 12 → gn_okO 119 pc (gn_c119 pc) = true := by decide +kernel
set_option maxRecDepth 100000 in
theorem gn_ok120 : ∀ pc, pc < 34 → gn_okO 120 pc (gn_c120 pc) = true := by decide +kernel
set_option maxRecDepth 100000 in
theorem gn_ok121 : ∀ pc, pc < 25 → gn_okO 121 pc (gn_c121 pc) = true := by decide +kernel
set_option maxRecDepth 100000 in
theorem gn_ok122 : ∀ pc, pc < 35 → gn_okO 122 pc (gn_c122 pc) = true := by decide +kernel
set_option maxRecDepth 100000 in
theorem gn_ok123 : ∀ pc, pc < 47 → gn_okO 123 pc (gn_c123 pc) = true := by decide +kernel
set_option maxRecDepth 100000 in
theorem gn_ok124 : ∀ pc, pc < 16 → gn_okO 124 pc (gn_c124 pc) = true := by decide +kernel
set_option maxRecDepth 100000 in
theorem gn_ok125 : ∀ pc, pc < 16 → gn_okO 125 pc (gn_c125 pc) = true := by decide +kernel
set_option maxRecDepth 100000 in
theorem gn_ok126 : ∀ pc, pc < 15 → gn_okO 126 pc (gn_c126 pc) = true := by decide +kernel
set_option maxRecDepth 100000 in
theorem gn_ok127 : ∀ pc, pc < 33 → gn_okO 127 pc (gn_c127 pc) = true := by decide +kernel
set_option maxRecDepth 100000 in
theorem gn_ok128 : ∀ pc, pc < 16 → gn_okO 128 pc (gn_c128 pc) = true := by decide +kernel
set_option maxRecDepth 100000 in
theorem gn_ok129 : ∀ pc, pc < 47 → gn_okO 129 pc (gn_c129 pc) = true := by decide +kernel
set_option maxRecDepth 100000 in
theorem gn_ok130 : ∀ pc, pc < 16 → gn_okO 130 pc (gn_c130 pc) = true := by decide +kernel
set_option maxRecDepth 100000 in
theorem gn_ok131 : ∀ pc, pc < 15 → gn_okO 131 pc (gn_c131 pc) = true := by decide +kernel
set_option maxRecDepth 100000 in
theorem gn_ok132 : ∀ pc, pc < 12 → gn_okO 132 pc (gn_c132 pc) = true := by decide +kernel
set_option maxRecDepth 100000 in
theorem gn_ok133 : ∀ pc, pc < 12 → gn_okO 133 pc (gn_c133 pc) = true := by decide +kernel
set_option maxRecDepth 100000 in
theorem gn_ok134 : ∀ pc, pc < 31 → gn_okO 134 pc (gn_c134 pc) = true := by decide +kernel
set_option maxRecDepth 100000 in
theorem gn_ok135 : ∀ pc, pc < 52 → gn_okO 135 pc (gn_c135 pc) = true := by decide +kernel
set_option maxRecDepth 100000 in
theorem gn_ok136 : ∀ pc, pc < 18 → gn_okO 136 pc (gn_c136 pc) = true := by decide +kernel
set_option maxRecDepth 100000 in
theorem gn_ok137 : ∀ pc, pc < 13 → gn_okO 137 pc (gn_c137 pc) = true := by decide +kernel
set_option maxRecDepth 100000 in
theorem gn_ok138 : ∀ pc, pc < 63 → gn_okO 138 pc (gn_c138 pc) = true := by decide +kernel
set_option maxRecDepth 100000 in
theorem gn_ok139 : ∀ pc, pc < 139 → gn_okO 139 pc (gn_c139 pc) = true := by decide +kernel
set_option maxRecDepth 100000 in
theorem gn_ok140 : ∀ pc, pc < 31 → gn_okO 140 pc (gn_c140 pc) = true := by decide +kernel
set_option maxRecDepth 100000 in
theorem gn_ok141 : ∀ pc, pc < 158 → gn_okO 141 pc (gn_c141 pc) = true := by decide +kernel
set_option maxRecDepth 100000 in
theorem gn_ok142 : ∀ pc, pc < 55 → gn_okO 142 pc (gn_c142 pc) = true := by decide +kernel
set_option maxRecDepth 100000 in
theorem gn_ok143 : ∀ pc, pc < 142 → gn_okO 143 pc (gn_c143 pc) = true := by decide +kernel
set_option maxRecDepth 100000 in
theorem gn_ok144 : ∀ pc, pc < 100 → gn_okO 144 pc (gn_c144 pc) = true := by decide +kernel
set_option maxRecDepth 100000 in
theorem gn_ok145 : ∀ pc, pc < 205 → gn_okO 145 pc (gn_c145 pc) = true := by decide +kernel
set_option maxRecDepth 100000 in
theorem gn_ok146 : ∀ pc, pc < 105 → gn_okO 146 pc (gn_c146 pc) = true := by decide +kernel
set_option maxRecDepth 100000 in
theorem gn_ok147 : ∀ pc, pc < 5 → gn_okO 147 pc (gn_c147 pc) = true := by decide +kernel
set_option maxRecDepth 100000 in
theorem gn_ok148 : ∀ pc, pc < 15 → gn_okO 148 pc (gn_c148 pc) = true := by decide +kernel
set_option maxRecDepth 100000 in
theorem gn_ok149 : ∀ pc, pc < 15 → gn_okO 149 pc (gn_c149 pc) = true := by decide +kernel
set_option maxRecDepth 100000 in
theorem gn_ok150 : ∀ pc, pc < 125 → gn_okO 150 pc (gn_c150 pc) = true := by decide +kernel
set_option maxRecDepth 100000 in
theorem gn_ok151 : ∀ pc, pc < 10 → gn_okO 151 pc (gn_c151 pc) = true := by decide +kernel
set_option maxRecDepth 100000 in
theorem gn_ok152 : ∀ pc, pc < 43 → gn_okO 152 pc (gn_c152 pc) = true := by decide +kernel
set_option maxRecDepth 100000 in
theorem gn_ok153 : ∀ pc, pc < 38 → gn_okO 153 pc (gn_c153 pc) = true := by decide +kernel
set_option maxRecDepth 100000 in
theorem gn_ok154 : ∀ pc, pc < 39 → gn_okO 154 pc (gn_c154 pc) = true := by decide +kernel
set_option maxRecDepth 100000 in
theorem gn_ok155 : ∀ pc, pc < 33 → gn_okO 155 pc (gn_c155 pc) = true := by decide +kernel
set_option maxRecDepth 100000 in
theorem gn_ok156 : ∀ pc, pc < 32 → gn_okO 156 pc (gn_c156 pc) = true := by decide +kernel
set_option maxRecDepth 100000 in
theorem gn_ok157 : ∀ pc, pc < 91 → gn_okO 157 pc (gn_c157 pc) = true := by decide +kernel
set_option maxRecDepth 100000 in
theorem gn_ok158 : ∀ pc, pc < 87 → gn_okO 158 pc (gn_c158 pc) = true := by decide +kernel
set_option maxRecDepth 100000 in
theorem gn_ok159 : ∀ pc, pc < 216 → gn_okO 159 pc (gn_c159 pc) = true := by decide +kernel
set_option maxRecDepth 100000 in
theorem gn_ok160 : ∀ pc, pc < 102 → gn_okO 160 pc (gn_c160 pc) = true := by decide +kernel
set_option maxRecDepth 100000 in
theorem gn_ok161 : ∀ pc, pc < 66 → gn_okO 161 pc (gn_c161 pc) = true := by decide +kernel
set_option maxRecDepth 100000 in
theorem gn_ok162 : ∀ pc, pc < 58 → gn_okO 162 pc (gn_c162 pc) = true := by decide +kernel
set_option maxRecDepth 100000 in
theorem gn_ok163 : ∀ pc, pc < 79 → gn_okO 163 pc (gn_c163 pc) = true := by decide +kernel
set_option maxRecDepth 100000 in
theorem gn_ok164 : ∀ pc, pc < 66 → gn_okO 164 pc (gn_c164 pc) = true := by decide +kernel
set_option maxRecDepth 100000 in
theorem gn_ok165 : ∀ pc, pc < 42 → gn_okO 165 pc (gn_c165 pc) = true := by decide +kernel
set_option maxRecDepth 100000 in
theorem gn_ok166 : ∀ pc, pc < 36 → gn_okO 166 pc (gn_c166 pc) = true := by decide +kernel
set_option maxRecDepth 100000 in
theorem gn_ok167 : ∀ pc, pc < 42 → gn_okO 167 pc (gn_c167 pc) = true := by decide +kernel
set_option maxRecDepth 100000 in
theorem gn_ok168 : ∀ pc, pc < 27 → gn_okO 168 pc (gn_c168 pc) = true := by decide +kernel
set_option maxRecDepth 100000 in
theorem gn_ok169 : ∀ pc, pc < 53 → gn_okO 169 pc (gn_c169 pc) = true := by decide +kernel
set_option maxRecDepth 100000 in
theorem gn_ok170 : ∀ pc, pc < 76 → gn_okO 170 pc (gn_c170 pc) = true := by decide +kernel
set_option maxRecDepth 100000 in
theorem gn_ok171 : ∀ pc, pc < 72 → gn_okO 171 pc (gn_c171 pc) = true := by decide +kernel
set_option maxRecDepth 100000 in
theorem gn_ok172 : ∀ pc, pc < 38 → gn_okO 172 pc (gn_c172 pc) = true := by decide +kernel
set_option maxRecDepth 100000 in
theorem gn_ok173 : ∀ pc, pc < 98 → gn_okO 173 pc (gn_c173 pc) = true := by decide +kernel
set_option maxRecDepth 100000 in
theorem gn_ok174 : ∀ pc, pc < 46 → gn_okO 174 pc (gn_c174 pc) = true := by decide +kernel
set_option maxRecDepth 100000 in
theorem gn_ok175 : ∀ pc, pc < 43 → gn_okO 175 pc (gn_c175 pc) = true := by decide +kernel
set_option maxRecDepth 100000 in
theorem gn_ok176 : ∀ pc, pc < 52 → gn_okO 176 pc (gn_c176 pc) = true := by decide +kernel
set_option maxRecDepth 100000 in
theorem gn_ok177 : ∀ pc, pc < 41 → gn_okO 177 pc (gn_c177 pc) = true := by decide +kernel
set_option maxRecDepth 100000 in
theorem gn_ok178 : ∀ pc, pc < 87 → gn_okO 178 pc (gn_c178 pc) = true := by decide +kernel
set_option maxRecDepth 100000 in
theorem gn_ok179 : ∀ pc, pc < 61 → gn_okO 179 pc (gn_c179 pc) = true := by decide +kernel
set_option maxRecDepth 100000 in
theorem gn_ok180 : ∀ pc, pc < 73 → gn_okO 180 pc (gn_c180 pc) = true := by decide +kernel
set_option maxRecDepth 100000 in
theorem gn_ok181 : ∀ pc, pc < 53 → gn_okO 181 pc (gn_c181 pc) = true := by decide +kernel
set_option maxRecDepth 100000 in
theorem gn_ok182 : ∀ pc, pc < 22 → gn_okO 182 pc (gn_c182 pc) = true := by decide +kernel
set_option maxRecDepth 100000 in
theorem gn_ok183 : ∀ pc, pc < 53 → gn_okO 183 pc (gn_c183 pc) = true := by decide +kernel
set_option maxRecDepth 100000 in
theorem gn_ok184 : ∀ pc, pc < 151 → gn_okO 184 pc (gn_c184 pc) = true := by decide +kernel
set_option maxRecDepth 100000 in
theorem gn_ok185 : ∀ pc, pc < 132 → gn_okO 185 pc (gn_c185 pc) = true := by decide +kernel
set_option maxRecDepth 100000 in
theorem gn_ok186 : ∀ pc, pc < 21 → gn_okO 186 pc (gn_c186 pc) = true := by decide +kernel
set_option maxRecDepth 100000 in
theorem gn_ok187 : ∀ pc, pc < 114 → gn_okO 187 pc (gn_c187 pc) = true := by decide +kernel
set_option maxRecDepth 100000 in
theorem gn_ok188 : ∀ pc, pc < 125 → gn_okO 188 pc (gn_c188 pc) = true := by decide +kernel
set_option maxRecDepth 100000 in
theorem gn_ok189 : ∀ pc, pc < 24 → gn_okO 189 pc (gn_c189 pc) = true := by decide +kernel
set_option maxRecDepth 100000 in
theorem gn_ok190 : ∀ pc, pc < 36 → gn_okO 190 pc (gn_c190 pc) = true := by decide +kernel
set_option maxRecDepth 100000 in
theorem gn_ok191 : ∀ pc, pc < 88 → gn_okO 191 pc (gn_c191 pc) = true := by decide +kernel
set_option maxRecDepth 100000 in
theorem gn_ok192 : ∀ pc, pc < 36 → gn_okO 192 pc (gn_c192 pc) = true := by decide +kernel
set_option maxRecDepth 100000 in
theorem gn_ok193 : ∀ pc, pc < 94 → gn_okO 193 pc (gn_c193 pc) = true := by decide +kernel
set_option maxRecDepth 100000 in
theorem gn_ok194 : ∀ pc, pc < 54 → gn_okO 194 pc (gn_c194 pc) = true := by decide +kernel
set_option maxRecDepth 100000 in
theorem gn_ok195 : ∀ pc, pc < 60 → gn_okO 195 pc (gn_c195 pc) = true := by decide +kernel
set_option maxRecDepth 100000 in
theorem gn_ok196 : ∀ pc, pc < 89 → gn_okO 196 pc (gn_c196 pc) = true := by decide +kernel
set_option maxRecDepth 100000 in
theorem gn_ok197 : ∀ pc, pc < 166 → gn_okO 197 pc (gn_c197 pc) = true := by decide +kernel
set_option maxRecDepth 100000 in
theorem gn_ok198 : ∀ pc, pc < 71 → gn_okO 198 pc (gn_c198 pc) = true := by decide +kernel
set_option maxRecDepth 100000 in
theorem gn_ok199 : ∀ pc, pc < 43 → gn_okO 199 pc (gn_c199 pc) = true := by decide +kernel
set_option maxRecDepth 100000 in
theorem gn_ok200 : ∀ pc, pc < 22 → gn_okO 200 pc (gn_c200 pc) = true := by decide +kernel
set_option maxRecDepth 100000 in
theorem gn_ok201 : ∀ pc, pc < 25 → gn_okO 201 pc (gn_c201 pc) = true := by decide +kernel
set_option maxRecDepth 100000 in
theorem gn_ok202 : ∀ pc, pc < 43 → gn_okO 202 pc (gn_c202 pc) = true := by decide +kernel
set_option maxRecDepth 100000 in
theorem gn_ok203 : ∀ pc, pc < 45 → gn_okO 203 pc (gn_c203 pc) = true := by decide +kernel
set_option maxRecDepth 100000 in
theorem gn_ok204 : ∀ pc, pc < 53 → gn_okO 204 pc (gn_c204 pc) = true := by decide +kernel
theorem gn_two {P : Nat → Prop} {lo mid hi : Nat} (h1 : ∀ k, lo ≤ k → k < mid → P k) (h2 : ∀ k, mid ≤ k → k < hi → P k) : ∀ k, lo ≤ k → k < hi → P k := fun k a b => (Nat.lt_or_ge k mid).elim (h1 k a) (fun c => h2 k c b)
theorem gn_one {P : Nat → Prop} {k0 : Nat} (h : P k0) : ∀ k, k0 ≤ k → k < k0 + 1 → P k := fun k a b => by
  have e : k = k0 := by omega
  rw [e]; exact h
def gn_PM (k : Nat) : Prop := ∀ pc, pc < (gn_mth k).1 → gn_okO k pc ((gn_mth k).2 pc) = true
theorem gn_pm0 : gn_PM 0 := gn_ok0
theorem gn_pm1 : gn_PM 1 := gn_ok1
theorem gn_pm2 : gn_PM 2 := gn_ok2
theorem gn_pm3 : gn_PM 3 := gn_ok3
theorem gn_pm4 : gn_PM 4 := gn_ok4
theorem gn_pm5 : gn_PM 5 := gn_ok5
theorem gn_pm6 : gn_PM 6 := gn_ok6
theorem gn_pm7 : gn_PM 7 := gn_ok7
theorem gn_pm8 : gn_PM 8 := gn_ok8
theorem gn_pm9 : gn_PM 9 := gn_ok9
theorem gn_pm10 : gn_PM 10 := gn_ok10
theorem gn_pm11 : gn_PM 11 := gn_ok11
theorem gn_pm12 : gn_PM 12 := gn_ok12
theorem gn_pm13 : gn_PM 13 := gn_ok13
theorem gn_pm14 : gn_PM 14 := gn_ok14
theorem gn_pm15 : gn_PM 15 := gn_ok15
theorem gn_pm16 : gn_PM 16 := gn_ok16
theorem gn_pm17 : gn_PM 17 := gn_ok17
theorem gn_pm18 : gn_PM 18 := gn_ok18
theorem gn_pm19 : gn_PM 19 := gn_ok19
theorem gn_pm20 : gn_PM 20 := gn_ok20
theorem gn_pm21 : gn_PM 21 := gn_ok21
theorem gn_pm22 : gn_PM 22 := gn_ok22
theorem gn_pm23 : gn_PM 23 := gn_ok23
theorem gn_pm24 : gn_PM 24 := gn_ok24
theorem gn_pm25 : gn_PM 25 := gn_ok25
theorem gn_pm26 : gn_PM 26 := gn_ok26
theorem gn_pm27 : gn_PM 27 := gn_ok27
theorem gn_pm28 : gn_PM 28 := gn_ok28
theorem gn_pm29 : gn_PM 29 := gn_ok29
theorem gn_pm30 : gn_PM 30 := gn_ok30
theorem gn_pm31 : gn_PM 31 := gn_ok31
theorem gn_pm32 : gn_PM 32 := gn_ok32
theorem gn_pm33 : gn_PM 33 := gn_ok33
theorem gn_pm34 : gn_PM 34 := gn_ok34
theorem gn_pm35 : gn_PM 35 := gn_ok35
theorem gn_pm36 : gn_PM 36 := gn_ok36
theorem gn_pm37 : gn_PM 37 := gn_ok37
theorem gn_pm38 : gn_PM 38 := gn_ok38
theorem gn_pm39 : gn_PM 39 := gn_ok39
theorem gn_pm40 : gn_PM 40 := gn_ok40
theorem gn_pm41 : gn_PM 41 := gn_ok41
theorem gn_pm42 : gn_PM 42 := gn_ok42
theorem gn_pm43 : gn_PM 43 := gn_ok43
theorem gn_pm44 : gn_PM 44 := gn_ok44
theorem gn_pm45 : gn_PM 45 := gn_ok45
theorem gn_pm46 : gn_PM 46 := gn_ok46
theorem gn_pm47 : gn_PM 47 := gn_ok47
theorem gn_pm48 : gn_PM 48 := gn_ok48
theorem gn_pm49 : gn_PM 49 := gn_ok49
theorem gn_pm50 : gn_PM 50 := gn_ok50
theorem gn_pm51 : gn_PM 51 := gn_ok51
theorem gn_pm52 : gn_PM 52 := gn_ok52
theorem gn_pm53 : gn_PM 53 := gn_ok53
theorem gn_pm54 : gn_PM 54 := gn_ok54
theorem gn_pm55 : gn_PM 55 := gn_ok55
theorem gn_pm56 : gn_PM 56 := gn_ok56
theorem gn_pm57 : gn_PM 57 := gn_ok57
theorem gn_pm58 : gn_PM 58 := gn_ok58
theorem gn_pm59 : gn_PM 59 := gn_ok59
theorem gn_pm60 : gn_PM 60 := gn_ok60
theorem gn_pm61 : gn_PM 61 := gn_ok61
theorem gn_pm62 : gn_PM 62 := gn_ok62
theorem gn_pm63 : gn_PM 63 := gn_ok63
theorem gn_pm64 : gn_PM 64 := gn_ok64
theorem gn_pm65 : gn_PM 65 := gn_ok65
theorem gn_pm66 : gn_PM 66 := gn_ok66
theorem gn_pm67 : gn_PM 67 := gn_ok67
theorem gn_pm68 : gn_PM 68 := gn_ok68
theorem gn_pm69 : gn_PM 69 := gn_ok69
theorem gn_pm70 : gn_PM 70 := gn_ok70
theorem gn_pm71 : gn_PM 71 := gn_ok71
theorem gn_pm72 : gn_PM 72 := gn_ok72
theorem gn_pm73 : gn_PM 73 := gn_ok73
theorem gn_pm74 : gn_PM 74 := gn_ok74
theorem gn_pm75 : gn_PM 75 := gn_ok75
theorem gn_pm76 : gn_PM 76 := gn_ok76
theorem gn_pm77 : gn_PM 77 := gn_ok77
theorem gn_pm78 : gn_PM 78 := gn_ok78
theorem gn_pm79 : gn_PM 79 := gn_ok79
theorem gn_pm80 : gn_PM 80 := gn_ok80
theorem gn_pm81 : gn_PM 81 := gn_ok81
theorem gn_pm82 : gn_PM 82 := gn_ok82
theorem gn_pm83 : gn_PM 83 := gn_ok83
theorem gn_pm84 : gn_PM 84 := gn_ok84
theorem gn_pm85 : gn_PM 85 := gn_ok85
theorem gn_pm86 : gn_PM 86 := gn_ok86
theorem gn_pm87 : gn_PM 87 := gn_ok87
theorem gn_pm88 : gn_PM 88 := gn_ok88
theorem gn_pm89 : gn_PM 89 := gn_ok89
theorem gn_pm90 : gn_PM 90 := gn_ok90
theorem gn_pm91 : gn_PM 91 := gn_ok91
theorem gn_pm92 : gn_PM 92 := gn_ok92
theorem gn_pm93 : gn_PM 93 := gn_ok93
theorem gn_pm94 : gn_PM 94 := gn_ok94
theorem gn_pm95 : gn_PM 95 := gn_ok95
theorem gn_pm96 : gn_PM 96 := gn_ok96
theorem gn_pm97 : gn_PM 97 := gn_ok97
theorem gn_pm98 : gn_PM 98 := gn_ok98
theorem gn_pm99 : gn_PM 99 := gn_ok99
theorem gn_pm100 : gn_PM 100 := gn_ok100
theorem gn_pm101 : gn_PM 101 := gn_ok101
theorem gn_pm102 : gn_PM 102 := gn_ok102
theorem gn_pm103 : gn_PM 103 := gn_ok103
theorem gn_pm104 : gn_PM 104 := gn_ok104
theorem gn_pm105 : gn_PM 105 := gn_ok105
theorem gn_pm106 : gn_PM 106 := gn_ok106
theorem gn_pm107 : gn_PM 107 := gn_ok107
theorem gn_pm108 : gn_PM 108 := gn_ok108
theorem gn_pm109 : gn_PM 109 := gn_ok109
theorem gn_pm110 : gn_PM 110 := gn_ok110
theorem gn_pm111 : gn_PM 111 := gn_ok111
theorem gn_pm112 : gn_PM 112 := gn_ok112
theorem gn_pm113 : gn_PM 113 := gn_ok113
theorem gn_pm114 : gn_PM 114 := gn_ok114
theorem gn_pm115 : gn_PM 115 := gn_ok115
theorem gn_pm116 : gn_PM 116 := gn_ok116
theorem gn_pm117 : gn_PM 117 := gn_ok117
theorem gn_pm118 : gn_PM 118 := gn_ok118
theorem gn_pm119 : gn_PM 119 := gn_ok119
theorem gn_pm120 : gn_PM 120 := gn_ok120
theorem gn_pm121 : gn_PM 121 := gn_ok121
theorem gn_pm122 : gn_PM 122 := gn_ok122
theorem gn_pm123 : gn_PM 123 := gn_ok123
theorem gn_pm124 : gn_PM 124 := gn_ok124
theorem gn_pm125 : gn_PM 125 := gn_ok125
theorem gn_pm126 : gn_PM 126 := gn_ok126
theorem gn_pm127 : gn_PM 127 := gn_ok127
theorem gn_pm128 : gn_PM 128 := gn_ok128
theorem gn_pm129 : gn_PM 129 := gn_ok129
theorem gn_pm130 : gn_PM 130 := gn_ok130
theorem gn_pm131 : gn_PM 131 := gn_ok131
theorem gn_pm132 : gn_PM 132 := gn_ok132
theorem gn_pm133 : gn_PM 133 := gn_ok133
theorem gn_pm134 : gn_PM 134 := gn_ok134
theorem gn_pm135 : gn_PM 135 := gn_ok135
theorem gn_pm136 : gn_PM 136 := gn_ok136
theorem gn_pm137 : gn_PM 137 := gn_ok137
theorem gn_pm138 : gn_PM 138 := gn_ok138
theorem gn_pm139 : gn_PM 139 := gn_ok139
theorem gn_pm140 : gn_PM 140 := gn_ok140
theorem gn_pm141 : gn_PM 141 := gn_ok141
theorem gn_pm142 : gn_PM 142 := gn_ok142
theorem gn_pm143 : gn_PM 143 := gn_ok143
theorem gn_pm144 : gn_PM 144 := gn_ok144
theorem gn_pm145 : gn_PM 145 := gn_ok145
theorem gn_pm146 : gn_PM 146 := gn_ok146
theorem gn_pm147 : gn_PM 147 := gn_ok147
theorem gn_pm148 : gn_PM 148 := gn_ok148
theorem gn_pm149 : gn_PM 149 := gn_ok149
theorem gn_pm150 : gn_PM 150 := gn_ok150
theorem gn_pm151 : gn_PM 151 := gn_ok151
theorem gn_pm152 : gn_PM 152 := gn_ok152
theorem gn_pm153 : gn_PM 153 := gn_ok153
theorem gn_pm154 : gn_PM 154 := gn_ok154
theorem gn_pm155 : gn_PM 155 := gn_ok155
theorem gn_pm156 : gn_PM 156 := gn_ok156
theorem gn_pm157 : gn_PM 157 := gn_ok157
theorem gn_pm158 : gn_PM 158 := gn_ok158
theorem gn_pm159 : gn_PM 159 := gn_ok159
theorem gn_pm160 : gn_PM 160 := gn_ok160
theorem gn_pm161 : gn_PM 161 := gn_ok161
theorem gn_pm162 : gn_PM 162 := gn_ok162
theorem gn_pm163 : gn_PM 163 := gn_ok163
theorem gn_pm164 : gn_PM 164 := gn_ok164
theorem gn_pm165 : gn_PM 165 := gn_ok165
theorem gn_pm166 : gn_PM 166 := gn_ok166
theorem gn_pm167 : gn_PM 167 := gn_ok167
theorem gn_pm168 : gn_PM 168 := gn_ok168
theorem gn_pm169 : gn_PM 169 := gn_ok169
theorem gn_pm170 : gn_PM 170 := gn_ok170
theorem gn_pm171 : gn_PM 171 := gn_ok171
theorem gn_pm172 : gn_PM 172 := gn_ok172
theorem gn_pm173 : gn_PM 173 := gn_ok173
theorem gn_pm174 : gn_PM 174 := gn_ok174
theorem gn_pm175 : gn_PM 175 := gn_ok175
theorem gn_pm176 : gn_PM 176 := gn_ok176
theorem gn_pm177 : gn_PM 177 := gn_ok177
theorem gn_pm178 : gn_PM 178 := gn_ok178
theorem gn_pm179 : gn_PM 179 := gn_ok179
theorem gn_pm180 : gn_PM 180 := gn_ok180
theorem gn_pm181 : gn_PM 181 := gn_ok181
theorem gn_pm182 : gn_PM 182 := gn_ok182
theorem gn_pm183 : gn_PM 183 := gn_ok183
theorem gn_pm184 : gn_PM 184 := gn_ok184
theorem gn_pm185 : gn_PM 185 := gn_ok185
theorem gn_pm186 : gn_PM 186 := gn_ok186
theorem gn_pm187 : gn_PM 187 := gn_ok187
theorem gn_pm188 : gn_PM 188 := gn_ok188
theorem gn_pm189 : gn_PM 189 := gn_ok189
theorem gn_pm190 : gn_PM 190 := gn_ok190
theorem gn_pm191 : gn_PM 191 := gn_ok191
theorem gn_pm192 : gn_PM 192 := gn_ok192
theorem gn_pm193 : gn_PM 193 := gn_ok193
theorem gn_pm194 : gn_PM 194 := gn_ok194
theorem gn_pm195 : gn_PM 195 := gn_ok195
theorem gn_pm196 : gn_PM 196 := gn_ok196
theorem gn_pm197 : gn_PM 197 := gn_ok197
theorem gn_pm198 : gn_PM 198 := gn_ok198
theorem gn_pm199 : gn_PM 199 := gn_ok199
theorem gn_pm200 : gn_PM 200 := gn_ok200
theorem gn_pm201 : gn_PM 201 := gn_ok201
theorem gn_pm202 : gn_PM 202 := gn_ok202
theorem gn_pm203 : gn_PM 203 := gn_ok203
theorem gn_pm204 : gn_PM 204 := gn_ok204
theorem gn_pm_all : ∀ k, 0 ≤ k → k < 205 → gn_PM k := (gn_two (lo := 0) (mid := 102) (hi := 205) (gn_two (lo := 0) (mid := 51) (hi := 102) (gn_two (lo := 0) (mid := 25) (hi := 51) (gn_two (lo := 0) (mid := 12) (hi := 25) (gn_two (lo := 0) (mid := 6) (hi := 12) (gn_two (lo := 0) (mid := 3) (hi := 6) (gn_two (lo := 0) (mid := 1) (hi := 3) (gn_one (k0 := 0) gn_pm0) (gn_two (lo := 1) (mid := 2) (hi := 3) (gn_one (k0 := 1) gn_pm1) (gn_one (k0 := 2) gn_pm2))) (gn_two (lo := 3) (mid := 4) (hi := 6) (gn_one (k0 := 3) gn_pm3) (gn_two (lo := 4) (mid := 5) (hi := 6) (gn_one (k0 := 4) gn_pm4) (gn_one (k0 := 5) gn_pm5)))) (gn_two (lo := 6) (mid := 9) (hi := 12) (gn_two (lo := 6) (mid := 7) (hi := 9) (gn_one (k0 := 6) gn_pm6) (gn_two (lo := 7) (mid := 8) (hi := 9) (gn_one (k0 := 7) gn_pm7) (gn_one (k0 := 8) gn_pm8))) (gn_two (lo := 9) (mid := 10) (hi := 12) (gn_one (k0 := 9) gn_pm9) (gn_two (lo := 10) (mid := 11) (hi := 12) (gn_one (k0 := 10) gn_pm10) (gn_one (k0 := 11) gn_pm11))))) (gn_two (lo := 12) (mid := 18) (hi := 25) (gn_two (lo := 12) (mid := 15) (hi := 18) (gn_two (lo := 12) (mid := 13) (hi := 15) (gn_one (k0 := 12) gn_pm12) (gn_two (lo := 13) (mid := 14) (hi := 15) (gn_one (k0 := 13) gn_pm13) (gn_one (k0 := 14) gn_pm14))) (gn_two (lo := 15) (mid := 16) (hi := 18) (gn_one (k0 := 15) gn_pm15) (gn_two (lo := 16) (mid := 17) (hi := 18) (gn_one (k0 := 16) gn_pm16) (gn_one (k0 := 17) gn_pm17)))) (gn_two (lo := 18) (mid := 21) (hi := 25) (gn_two (lo := 18) (mid := 19) (hi := 21) (gn_one (k0 := 18) gn_pm18) (gn_two (lo := 19) (mid := 20) (hi := 21) (gn_one (k0 := 19) gn_pm19) (gn_one (k0 := 20) gn_pm20))) (gn_two (lo := 21) (mid := 23) (hi := 25) (gn_two (lo := 21) (mid := 22) (hi := 23) (gn_one (k0 := 21) gn_pm21) (gn_one (k0 := 22) gn_pm22)) (gn_two (lo := 23) (mid := 24) (hi := 25) (gn_one (k0 := 23) gn_pm23) (gn_one (k0 := 24) gn_pm24)))))) (gn_two (lo := 25) (mid := 38) (hi := 51) (gn_two (lo := 25) (mid := 31) (hi := 38) (gn_two (lo := 25) (mid := 28) (hi := 31) (gn_two (lo := 25) (mid := 26) (hi := 28) (gn_one (k0 := 25) gn_pm25) (gn_two (lo := 26) (mid := 27) (hi := 28) (gn_one (k0 := 26) gn_pm26) (gn_one (k0 := 27) gn_pm27))) (gn_two (lo := 28) (mid := 29) (hi := 31) (gn_one (k0 := 28) gn_pm28) (gn_two (lo := 29) (mid := 30) (hi := 31) (gn_one (k0 := 29) gn_pm29) (gn_one (k0 := 30) gn_pm30)))) (gn_two (lo := 31) (mid := 34) (hi := 38) (gn_two (lo := 31) (mid := 32) (hi := 34) (gn_one (k0 := 31) gn_pm31) (gn_two (lo := 32) (mid := 33) (hi := 34) (gn_one (k0 := 32) gn_pm32) (gn_one (k0 := 33) gn_pm33))) (gn_two (lo := 34) (mid := 36) (hi := 38) (gn_two (lo := 34) (mid := 35) (hi := 36) (gn_one (k0 := 34) gn_pm34) (gn_one (k0 := 35) gn_pm35)) (gn_two (lo := 36) (mid := 37) (hi := 38) (gn_one (k0 := 36) gn_pm36) (gn_one (k0 := 37) gn_pm37))))) (gn_two (lo := 38) (mid := 44) (hi := 51) (gn_two (lo := 38) (mid := 41) (hi := 44) (gn_two (lo := 38) (mid := 39) (hi := 41) (gn_one (k0 := 38) gn_pm38) (gn_two (lo := 39) (mid := 40) (hi := 41) (gn_one (k0 := 39) gn_pm39) (gn_one (k0 := 40) gn_pm40))) (gn_two (lo := 41) (mid := 42) (hi := 44) (gn_one (k0 := 41) gn_pm41) (gn_two (lo := 42) (mid := 43) (hi := 44) (gn_one (k0 := 42) gn_pm42) (gn_one (k0 := 43) gn_pm43)))) (gn_two (lo := 44) (mid := 47) (hi := 51) (gn_two (lo := 44) (mid := 45) (hi := 47) (gn_one (k0 := 44) gn_pm44) (gn_two (lo := 45) (mid := 46) (hi := 47) (gn_one (k0 := 45) gn_pm45) (gn_one (k0 := 46) gn_pm46))) (gn_two (lo := 47) (mid := 49) (hi := 51) (gn_two (lo := 47) (mid := 48) (hi := 49) (gn_one (k0 := 47) gn_pm47) (gn_one (k0 := 48) gn_pm48)) (gn_two (lo := 49) (mid := 50) (hi := 51) (gn_one (k0 := 49) gn_pm49) (gn_one (k0 := 50) gn_pm50))))))) (gn_two (lo := 51) (mid := 76) (hi := 102) (gn_two (lo := 51) (mid := 63) (hi := 76) (gn_two (lo := 51) (mid := 57) (hi := 63) (gn_two (lo := 51) (mid := 54) (hi := 57) (gn_two (lo := 51) (mid := 52) (hi := 54) (gn_one (k0 := 51) gn_pm51) (gn_two (lo := 52) (mid := 53) (hi := 54) (gn_one (k0 := 52) gn_pm52) (gn_one (k0 := 53) gn_pm53))) (gn_two (lo := 54) (mid := 55) (hi := 57) (gn_one (k0 := 54) gn_pm54) (gn_two (lo := 55) (mid := 56) (hi := 57) (gn_one (k0 := 55) gn_pm55) (gn_one (k0 := 56) gn_pm56)))) (gn_two (lo := 57) (mid := 60) (hi := 63) (gn_two (lo := 57) (mid := 58) (hi := 60) (gn_one (k0 := 57) gn_pm57) (gn_two (lo := 58) (mid := 59) (hi := 60) (gn_one (k0 := 58) gn_pm58) (gn_one (k0 := 59) gn_pm59))) (gn_two (lo := 60) (mid := 61) (hi := 63) (gn_one (k0 := 60) gn_pm60) (gn_two (lo := 61) (mid := 62) (hi := 63) (gn_one (k0 := 61) gn_pm61) (gn_one (k0 := 62) gn_pm62))))) (gn_two (lo := 63) (mid := 69) (hi := 76) (gn_two (lo := 63) (mid := 66) (hi := 69) (gn_two (lo := 63) (mid := 64) (hi := 66) (gn_one (k0 := 63) gn_pm63) (gn_two (lo := 64) (mid := 65) (hi := 66) (gn_one (k0 := 64) gn_pm64) (gn_one (k0 := 65) gn_pm65))) (gn_two (lo := 66) (mid := 67) (hi := 69) (gn_one (k0 := 66) gn_pm66) (gn_two (lo := 67) (mid := 68) (hi := 69) (gn_one (k0 := 67) gn_pm67) (gn_one (k0 := 68) gn_pm68)))) (gn_two (lo := 69) (mid := 72) (hi := 76) (gn_two (lo := 69) (mid := 70) (hi := 72) (gn_one (k0 := 69) gn_pm69) (gn_two (lo := 70) (mid := 71) (hi := 72) (gn_one (k0 := 70) gn_pm70) (gn_one (k0 := 71) gn_pm71))) (gn_two (lo := 72) (mid := 74) (hi := 76) (gn_two (lo := 72) (mid := 73) (hi := 74) (gn_one (k0 := 72) gn_pm72) (gn_one (k0 := 73) gn_pm73)) (gn_two (lo := 74) (mid := 75) (hi := 76) (gn_one (k0 := 74) gn_pm74) (gn_one (k0 := 75) gn_pm75)))))) (gn_two (lo := 76) (mid := 89) (hi := 102) (gn_two (lo := 76) (mid := 82) (hi := 89) (gn_two (lo := 76) (mid := 79) (hi := 82) (gn_two (lo := 76) (mid := 77) (hi := 79) (gn_one (k0 := 76) gn_pm76) (gn_two (lo := 77) (mid := 78) (hi := 79) (gn_one (k0 := 77) gn_pm77) (gn_one (k0 := 78) gn_pm78))) (gn_two (lo := 79) (mid := 80) (hi := 82) (gn_one (k0 := 79) gn_pm79) (gn_two (lo := 80) (mid := 81) (hi := 82) (gn_one (k0 := 80) gn_pm80) (gn_one (k0 := 81) gn_pm81)))) (gn_two (lo := 82) (mid := 85) (hi := 89) (gn_two (lo := 82) (mid := 83) (hi := 85) (gn_one (k0 := 82) gn_pm82) (gn_two (lo := 83) (mid := 84) (hi := 85) (gn_one (k0 := 83) gn_pm83) (gn_one (k0 := 84) gn_pm84))) (gn_two (lo := 85) (mid := 87) (hi := 89) (gn_two (lo := 85) (mid := 86) (hi := 87) (gn_one (k0 := 85) gn_pm85) (gn_one (k0 := 86) gn_pm86)) (gn_two (lo := 87) (mid := 88) (hi := 89) (gn_one (k0 := 87) gn_pm87) (gn_one (k0 := 88) gn_pm88))))) (gn_two (lo := 89) (mid := 95) (hi := 102) (gn_two (lo := 89) (mid := 92) (hi := 95) (gn_two (lo := 89) (mid := 90) (hi := 92) (gn_one (k0 := 89) gn_pm89) (gn_two (lo := 90) (mid := 91) (hi := 92) (gn_one (k0 := 90) gn_pm90) (gn_one (k0 := 91) gn_pm91))) (gn_two (lo := 92) (mid := 93) (hi := 95) (gn_one (k0 := 92) gn_pm92) (gn_two (lo := 93) (mid := 94) (hi := 95) (gn_one (k0 := 93) gn_pm93) (gn_one (k0 := 94) gn_pm94)))) (gn_two (lo := 95) (mid := 98) (hi := 102) (gn_two (lo := 95) (mid := 96) (hi := 98) (gn_one (k0 := 95) gn_pm95) (gn_two (lo := 96) (mid := 97) (hi := 98) (gn_one (k0 := 96) gn_pm96) (gn_one (k0 := 97) gn_pm97))) (gn_two (lo := 98) (mid := 100) (hi := 102) (gn_two (lo := 98) (mid := 99) (hi := 100) (gn_one (k0 := 98) gn_pm98) (gn_one (k0 := 99) gn_pm99)) (gn_two (lo := 100) (mid := 101) (hi := 102) (gn_one (k0 := 100) gn_pm100) (gn_one (k0 := 101) gn_pm101)))))))) (gn_two (lo := 102) (mid := 153) (hi := 205) (gn_two (lo := 102) (mid := 127) (hi := 153) (gn_two (lo := 102) (mid := 114) (hi := 127) (gn_two (lo := 102) (mid := 108) (hi := 114) (gn_two (lo := 102) (mid := 105) (hi := 108) (gn_two (lo := 102) (mid := 103) (hi := 105) (gn_one (k0 := 102) gn_pm102) (gn_two (lo := 103) (mid := 104) (hi := 105) (gn_one (k0 := 103) gn_pm103) (gn_one (k0 := 104) gn_pm104))) (gn_two (lo := 105) (mid := 106) (hi := 108) (gn_one (k0 := 105) gn_pm105) (gn_two (lo := 106) (mid := 107) (hi := 108) (gn_one (k0 := 106) gn_pm106) (gn_one (k0 := 107) gn_pm107)))) (gn_two (lo := 108) (mid := 111) (hi := 114) (gn_two (lo := 108) (mid := 109) (hi := 111) (gn_one (k0 := 108) gn_pm108) (gn_two (lo := 109) (mid := 110) (hi := 111) (gn_one (k0 := 109) gn_pm109) (gn_one (k0 := 110) gn_pm110))) (gn_two (lo := 111) (mid := 112) (hi := 114) (gn_one (k0 := 111) gn_pm111) (gn_two (lo := 112) (mid := 113) (hi := 114) (gn_one (k0 := 112) gn_pm112) (gn_one (k0 := 113) gn_pm113))))) (gn_two (lo := 114) (mid := 120) (hi := 127) (gn_two (lo := 114) (mid := 117) (hi := 120) (gn_two (lo := 114) (mid := 115) (hi := 117) (gn_one (k0 := 114) gn_pm114) (gn_two (lo := 115) (mid := 116) (hi := 117) (gn_one (k0 := 115) gn_pm115) (gn_one (k0 := 116) gn_pm116))) (gn_two (lo := 117) (mid := 118) (hi := 120) (gn_one (k0 := 117) gn_pm117) (gn_two (lo := 118) (mid := 119) (hi := 120) (gn_one (k0 := 118) gn_pm118) (gn_one (k0 := 119) gn_pm119)))) (gn_two (lo := 120) (mid := 123) (hi := 127) (gn_two (lo := 120) (mid := 121) (hi := 123) (gn_one (k0 := 120) gn_pm120) (gn_two (lo := 121) (mid := 122) (hi := 123) (gn_one (k0 := 121) gn_pm121) (gn_one (k0 := 122) gn_pm122))) (gn_two (lo := 123) (mid := 125) (hi := 127) (gn_two (lo := 123) (mid := 124) (hi := 125) (gn_one (k0 := 123) gn_pm123) (gn_one (k0 := 124) gn_pm124)) (gn_two (lo := 125) (mid := 126) (hi := 127) (gn_one (k0 := 125) gn_pm125) (gn_one (k0 := 126) gn_pm126)))))) (gn_two (lo := 127) (mid := 140) (hi := 153) (gn_two (lo := 127) (mid := 133) (hi := 140) (gn_two (lo := 127) (mid := 130) (hi := 133) (gn_two (lo := 127) (mid := 128) (hi := 130) (gn_one (k0 := 127) gn_pm127) (gn_two (lo := 128) (mid := 129) (hi := 130) (gn_one (k0 := 128) gn_pm128) (gn_one (k0 := 129) gn_pm129))) (gn_two (lo := 130) (mid := 131) (hi := 133) (gn_one (k0 := 130) gn_pm130) (gn_two (lo := 131) (mid := 132) (hi := 133) (gn_one (k0 := 131) gn_pm131) (gn_one (k0 := 132) gn_pm132)))) (gn_two (lo := 133) (mid := 136) (hi := 140) (gn_two (lo := 133) (mid := 134) (hi := 136) (gn_one (k0 := 133) gn_pm133) (gn_two (lo := 134) (mid := 135) (hi := 136) (gn_one (k0 := 134) gn_pm134) (gn_one (k0 := 135) gn_pm135))) (gn_two (lo := 136) (mid := 138) (hi := 140) (gn_two (lo := 136) (mid := 137) (hi := 138) (gn_one (k0 := 136) gn_pm136) (gn_one (k0 := 137) gn_pm137)) (gn_two (lo := 138) (mid := 139) (hi := 140) (gn_one (k0 := 138) gn_pm138) (gn_one (k0 := 139) gn_pm139))))) (gn_two (lo := 140) (mid := 146) (hi := 153) (gn_two (lo := 140) (mid := 143) (hi := 146) (gn_two (lo := 140) (mid := 141) (hi := 143) (gn_one (k0 := 140) gn_pm140) (gn_two (lo := 141) (mid := 142) (hi := 143) (gn_one (k0 := 141) gn_pm141) (gn_one (k0 := 142) gn_pm142))) (gn_two (lo := 143) (mid := 144) (hi := 146) (gn_one (k0 := 143) gn_pm143) (gn_two (lo := 144) (mid := 145) (hi := 146) (gn_one (k0 := 144) gn_pm144) (gn_one (k0 := 145) gn_pm145)))) (gn_two (lo := 146) (mid := 149) (hi := 153) (gn_two (lo := 146) (mid := 147) (hi := 149) (gn_one (k0 := 146) gn_pm146) (gn_two (lo := 147) (mid := 148) (hi := 149) (gn_one (k0 := 147) gn_pm147) (gn_one (k0 := 148) gn_pm148))) (gn_two (lo := 149) (mid := 151) (hi := 153) (gn_two (lo := 149) (mid := 150) (hi := 151) (gn_one (k0 := 149) gn_pm149) (gn_one (k0 := 150) gn_pm150)) (gn_two (lo := 151) (mid := 152) (hi := 153) (gn_one (k0 := 151) gn_pm151) (gn_one (k0 := 152) gn_pm152))))))) (gn_two (lo := 153) (mid := 179) (hi := 205) (gn_two (lo := 153) (mid := 166) (hi := 179) (gn_two (lo := 153) (mid := 159) (hi := 166) (gn_two (lo := 153) (mid := 156) (hi := 159) (gn_two (lo := 153) (mid := 154) (hi := 156) (gn_one (k0 := 153) gn_pm153) (gn_two (lo := 154) (mid := 155) (hi := 156) (gn_one (k0 := 154) gn_pm154) (gn_one (k0 := 155) gn_pm155))) (gn_two (lo := 156) (mid := 157) (hi := 159) (gn_one (k0 := 156) gn_pm156) (gn_two (lo := 157) (mid := 158) (hi := 159) (gn_one (k0 := 157) gn_pm157) (gn_one (k0 := 158) gn_pm158)))) (gn_two (lo := 159) (mid := 162) (hi := 166) (gn_two (lo := 159) (mid := 160) (hi := 162) (gn_one (k0 := 159) gn_pm159) (gn_two (lo := 160) (mid := 161) (hi := 162) (gn_one (k0 := 160) gn_pm160) (gn_one (k0 := 161) gn_pm161))) (gn_two (lo := 162) (mid := 164) (hi := 166) (gn_two (lo := 162) (mid := 163) (hi := 164) (gn_one (k0 := 162) gn_pm162) (gn_one (k0 := 163) gn_pm163)) (gn_two (lo := 164) (mid := 165) (hi := 166) (gn_one (k0 := 164) gn_pm164) (gn_one (k0 := 165) gn_pm165))))) (gn_two (lo := 166) (mid := 172) (hi := 179) (gn_two (lo := 166) (mid := 169) (hi := 172) (gn_two (lo := 166) (mid := 167) (hi := 169) (gn_one (k0 := 166) gn_pm166) (gn_two (lo := 167) (mid := 168) (hi := 169) (gn_one (k0 := 167) gn_pm167) (gn_one (k0 := 168) gn_pm168))) (gn_two (lo := 169) (mid := 170) (hi := 172) (gn_one (k0 := 169) gn_pm169) (gn_two (lo := 170) (mid := 171) (hi := 172) (gn_one (k0 := 170) gn_pm170) (gn_one (k0 := 171) gn_pm171)))) (gn_two (lo := 172) (mid := 175) (hi := 179) (gn_two (lo := 172) (mid := 173) (hi := 175) (gn_one (k0 := 172) gn_pm172) (gn_two (lo := 173) (mid := 174) (hi := 175) (gn_one (k0 := 173) gn_pm173) (gn_one (k0 := 174) gn_pm174))) (gn_two (lo := 175) (mid := 177) (hi := 179) (gn_two (lo := 175) (mid := 176) (hi := 177) (gn_one (k0 := 175) gn_pm175) (gn_one (k0 := 176) gn_pm176)) (gn_two (lo := 177) (mid := 178) (hi := 179) (gn_one (k0 := 177) gn_pm177) (gn_one (k0 := 178) gn_pm178)))))) (gn_two (lo := 179) (mid := 192) (hi := 205) (gn_two (lo := 179) (mid := 185) (hi := 192) (gn_two (lo := 179) (mid := 182) (hi := 185) (gn_two (lo := 179) (mid := 180) (hi := 182) (gn_one (k0 := 179) gn_pm179) (gn_two (lo := 180) (mid := 181) (hi := 182) (gn_one (k0 := 180) gn_pm180) (gn_one (k0 := 181) gn_pm181))) (gn_two (lo := 182) (mid := 183) (hi := 185) (gn_one (k0 := 182) gn_pm182) (gn_two (lo := 183) (mid := 184) (hi := 185) (gn_one (k0 := 183) gn_pm183) (gn_one (k0 := 184) gn_pm184)))) (gn_two (lo := 185) (mid := 188) (hi := 192) (gn_two (lo := 185) (mid := 186) (hi := 188) (gn_one (k0 := 185) gn_pm185) (gn_two (lo := 186) (mid := 187) (hi := 188) (gn_one (k0 := 186) gn_pm186) (gn_one (k0 := 187) gn_pm187))) (gn_two (lo := 188) (mid := 190) (hi := 192) (gn_two (lo := 188) (mid := 189) (hi := 190) (gn_one (k0 := 188) gn_pm188) (gn_one (k0 := 189) gn_pm189)) (gn_two (lo := 190) (mid := 191) (hi := 192) (gn_one (k0 := 190) gn_pm190) (gn_one (k0 := 191) gn_pm191))))) (gn_two (lo := 192) (mid := 198) (hi := 205) (gn_two (lo := 192) (mid := 195) (hi := 198) (gn_two (lo := 192) (mid := 193) (hi := 195) (gn_one (k0 := 192) gn_pm192) (gn_two (lo := 193) (mid := 194) (hi := 195) (gn_one (k0 := 193) gn_pm193) (gn_one (k0 := 194) gn_pm194))) (gn_two (lo := 195) (mid := 196) (hi := 198) (gn_one (k0 := 195) gn_pm195) (gn_two (lo := 196) (mid := 197) (hi := 198) (gn_one (k0 := 196) gn_pm196) (gn_one (k0 := 197) gn_pm197)))) (gn_two (lo := 198) (mid := 201) (hi := 205) (gn_two (lo := 198) (mid := 199) (hi := 201) (gn_one (k0 := 198) gn_pm198) (gn_two (lo := 199) (mid := 200) (hi := 201) (gn_one (k0 := 199) gn_pm199) (gn_one (k0 := 200) gn_pm200))) (gn_two (lo := 201) (mid := 203) (hi := 205) (gn_two (lo := 201) (mid := 202) (hi := 203) (gn_one (k0 := 201) gn_pm201) (gn_one (k0 := 202) gn_pm202)) (gn_two (lo := 203) (mid := 204) (hi := 205) (gn_one (k0 := 203) gn_pm203) (gn_one (k0 := 204) gn_pm204)))))))))
theorem gn_cd_ok {mi pc : Nat} {E : gn_En} (h : gn_cd mi pc = some E) : gn_okE mi pc E = true := by
  unfold gn_cd at h
  cases hb : Nat.blt pc (gn_mth mi).1 with
  | false => rw [hb] at h; cases h
  | true =>
    rw [hb] at h
    have hlt : pc < (gn_mth mi).1 := Nat.le_of_ble_eq_true hb
    by_cases hm : mi < 205
    · have h1 := gn_pm_all mi (Nat.zero_le _) hm pc hlt
      have h2 : (gn_mth mi).2 pc = some E := h
      rw [h2] at h1
      exact h1
    · have h3 : Nat.blt mi 205 = false := by
        cases hq : Nat.blt mi 205 with
        | false => rfl
        | true => exact absurd (Nat.le_of_ble_eq_true hq) hm
      have h4 : (gn_mth mi).1 = 0 := by unfold gn_mth; rw [h3]; rfl
      rw [h4] at hlt
      exact absurd hlt (Nat.not_lt_zero _)
