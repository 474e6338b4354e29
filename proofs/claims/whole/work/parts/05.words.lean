def dg_fld (k : Nat) : Option (Nat × Nat × Nat) := bif Nat.blt k 6144 then dm_fld k else none
def dg_mth (k : Nat) : Option (Nat × Nat × Nat × Nat × Nat) := bif Nat.blt k 6144 then (bif Nat.beq k 5202 then some (9, 0, 0, 0, 0) else dm_mth k).bind (fun m => bif Nat.beq m.1 5 || Nat.beq m.1 9 then some m else bif Nat.beq m.2.1 139 then some (6, 0, 0, 0, 0) else bif Nat.beq m.2.1 140 then some (7, 0, 0, 0, 0) else bif Nat.beq m.2.1 141 then some (8, 0, 0, 0, 0) else some m) else none
def dg_cls (k : Nat) : Option (Nat) := bif Nat.blt k 6144 then dm_cls k else none
def dg_cst (k : Nat) : Option (Int32) := bif Nat.blt k 6144 then dm_cst k else none
def dg_stc (k : Nat) : Option (Nat × Nat) := bif Nat.blt k 6144 then dm_stc k else none
def dm_isb (mi : Nat) : Bool := (bif Nat.blt mi 82 then (bif Nat.blt mi 57 then (bif Nat.blt mi 33 then (bif Nat.blt mi 18 then (bif Nat.blt mi 14 then (bif Nat.beq mi 4 then true else false) else (bif Nat.beq mi 14 then true else false)) else (bif Nat.blt mi 19 then (bif Nat.beq mi 18 then true else false) else (bif Nat.beq mi 19 then true else false))) else (bif Nat.blt mi 50 then (bif Nat.blt mi 47 then (bif Nat.beq mi 33 then true else false) else (bif Nat.beq mi 47 then true else false)) else (bif Nat.blt mi 53 then (bif Nat.beq mi 50 then true else false) else (bif Nat.beq mi 53 then true else false)))) else (bif Nat.blt mi 68 then (bif Nat.blt mi 66 then (bif Nat.blt mi 64 then (bif Nat.beq mi 57 then true else false) else (bif Nat.beq mi 64 then true else false)) else (bif Nat.blt mi 67 then (bif Nat.beq mi 66 then true else false) else (bif Nat.beq mi 67 then true else false))) else (bif Nat.blt mi 74 then (bif Nat.blt mi 73 then (bif Nat.beq mi 68 then true else false) else (bif Nat.beq mi 73 then true else false)) else (bif Nat.blt mi 75 then (bif Nat.beq mi 74 then true else false) else (bif Nat.blt mi 80 then (bif Nat.beq mi 75 then true else false) else (bif Nat.beq mi 80 then true else false)))))) else (bif Nat.blt mi 112 then (bif Nat.blt mi 95 then (bif Nat.blt mi 91 then (bif Nat.blt mi 87 then (bif Nat.beq mi 82 then true else false) else (bif Nat.beq mi 87 then true else false)) else (bif Nat.blt mi 92 then (bif Nat.beq mi 91 then true else false) else (bif Nat.beq mi 92 then true else false))) else (bif Nat.blt mi 100 then (bif Nat.blt mi 99 then (bif Nat.beq mi 95 then true else false) else (bif Nat.beq mi 99 then true else false)) else (bif Nat.blt mi 101 then (bif Nat.beq mi 100 then true else false) else (bif Nat.blt mi 106 then (bif Nat.beq mi 101 then true else false) else (bif Nat.beq mi 106 then true else false))))) else (bif Nat.blt mi 120 then (bif Nat.blt mi 118 then (bif Nat.blt mi 114 then (bif Nat.beq mi 112 then true else false) else (bif Nat.beq mi 114 then true else false)) else (bif Nat.blt mi 119 then (bif Nat.beq mi 118 then true else false) else (bif Nat.beq mi 119 then true else false))) else (bif Nat.blt mi 129 then (bif Nat.blt mi 124 then (bif Nat.beq mi 120 then true else false) else (bif Nat.beq mi 124 then true else false)) else (bif Nat.blt mi 133 then (bif Nat.beq mi 129 then true else false) else (bif Nat.blt mi 142 then (bif Nat.beq mi 133 then true else false) else (bif Nat.beq mi 142 then true else false)))))))
def dp_fld (k : Nat) : Nat := (bif Nat.blt k 2098 then (bif Nat.blt k 1572 then (bif Nat.blt k 1061 then (bif Nat.blt k 534 then (bif Nat.blt k 37 then (bif Nat.blt k 18 then (bif Nat.blt k 15 then (bif Nat.beq k 9 then 127 else 0) else (bif Nat.beq k 15 then 121 else 0)) else (bif Nat.blt k 21 then (bif Nat.beq k 18 then 124 else 0) else (bif Nat.blt k 25 then (bif Nat.beq k 21 then 130 else 0) else (bif Nat.beq k 25 then 45 else 0)))) else (bif Nat.blt k 525 then (bif Nat.blt k 519 then (bif Nat.beq k 37 then 37 else 0) else (bif Nat.beq k 519 then 242 else 0)) else (bif Nat.blt k 528 then (bif Nat.beq k 525 then 229 else 0) else (bif Nat.blt k 531 then (bif Nat.beq k 528 then 240 else 0) else (bif Nat.beq k 531 then 232 else 0))))) else (bif Nat.blt k 1046 then (bif Nat.blt k 544 then (bif Nat.blt k 541 then (bif Nat.beq k 534 then 236 else 0) else (bif Nat.beq k 541 then 234 else 0)) else (bif Nat.blt k 1038 then (bif Nat.beq k 544 then 238 else 0) else (bif Nat.blt k 1042 then (bif Nat.beq k 1038 then 152 else 0) else (bif Nat.beq k 1042 then 153 else 0)))) else (bif Nat.blt k 1052 then (bif Nat.blt k 1049 then (bif Nat.beq k 1046 then 154 else 0) else (bif Nat.beq k 1049 then 155 else 0)) else (bif Nat.blt k 1055 then (bif Nat.beq k 1052 then 156 else 0) else (bif Nat.blt k 1058 then (bif Nat.beq k 1055 then 157 else 0) else (bif Nat.beq k 1058 then 161 else 0)))))) else (bif Nat.blt k 1126 then (bif Nat.blt k 1077 then (bif Nat.blt k 1067 then (bif Nat.blt k 1064 then (bif Nat.beq k 1061 then 164 else 0) else (bif Nat.beq k 1064 then 167 else 0)) else (bif Nat.blt k 1070 then (bif Nat.beq k 1067 then 169 else 0) else (bif Nat.blt k 1074 then (bif Nat.beq k 1070 then 150 else 0) else (bif Nat.beq k 1074 then 151 else 0)))) else (bif Nat.blt k 1091 then (bif Nat.blt k 1081 then (bif Nat.beq k 1077 then 160 else 0) else (bif Nat.beq k 1081 then 171 else 0)) else (bif Nat.blt k 1094 then (bif Nat.beq k 1091 then 159 else 0) else (bif Nat.blt k 1121 then (bif Nat.beq k 1094 then 174 else 0) else (bif Nat.beq k 1121 then 105 else 0))))) else (bif Nat.blt k 1549 then (bif Nat.blt k 1151 then (bif Nat.blt k 1134 then (bif Nat.beq k 1126 then 95 else 0) else (bif Nat.beq k 1134 then 101 else 0)) else (bif Nat.blt k 1168 then (bif Nat.beq k 1151 then 38 else 0) else (bif Nat.blt k 1181 then (bif Nat.beq k 1168 then 98 else 0) else (bif Nat.beq k 1181 then 158 else 0)))) else (bif Nat.blt k 1560 then (bif Nat.blt k 1556 then (bif Nat.beq k 1549 then 269 else 0) else (bif Nat.beq k 1556 then 272 else 0)) else (bif Nat.blt k 1564 then (bif Nat.beq k 1560 then 274 else 0) else (bif Nat.blt k 1568 then (bif Nat.beq k 1564 then 267 else 0) else (bif Nat.beq k 1568 then 268 else 0))))))) else (bif Nat.blt k 1704 then (bif Nat.blt k 1630 then (bif Nat.blt k 1589 then (bif Nat.blt k 1580 then (bif Nat.blt k 1576 then (bif Nat.beq k 1572 then 278 else 0) else (bif Nat.beq k 1576 then 282 else 0)) else (bif Nat.blt k 1583 then (bif Nat.beq k 1580 then 280 else 0) else (bif Nat.blt k 1586 then (bif Nat.beq k 1583 then 271 else 0) else (bif Nat.beq k 1586 then 275 else 0)))) else (bif Nat.blt k 1607 then (bif Nat.blt k 1592 then (bif Nat.beq k 1589 then 276 else 0) else (bif Nat.beq k 1592 then 277 else 0)) else (bif Nat.blt k 1620 then (bif Nat.beq k 1607 then 273 else 0) else (bif Nat.blt k 1626 then (bif Nat.beq k 1620 then 270 else 0) else (bif Nat.beq k 1626 then 94 else 0))))) else (bif Nat.blt k 1659 then (bif Nat.blt k 1642 then (bif Nat.blt k 1633 then (bif Nat.beq k 1630 then 227 else 0) else (bif Nat.beq k 1633 then 228 else 0)) else (bif Nat.blt k 1645 then (bif Nat.beq k 1642 then 131 else 0) else (bif Nat.blt k 1652 then (bif Nat.beq k 1645 then 284 else 0) else (bif Nat.beq k 1652 then 230 else 0)))) else (bif Nat.blt k 1671 then (bif Nat.blt k 1666 then (bif Nat.beq k 1659 then 226 else 0) else (bif Nat.beq k 1666 then 173 else 0)) else (bif Nat.blt k 1674 then (bif Nat.beq k 1671 then 163 else 0) else (bif Nat.blt k 1691 then (bif Nat.beq k 1674 then 166 else 0) else (bif Nat.beq k 1691 then 102 else 0)))))) else (bif Nat.blt k 1757 then (bif Nat.blt k 1735 then (bif Nat.blt k 1716 then (bif Nat.blt k 1711 then (bif Nat.beq k 1704 then 39 else 0) else (bif Nat.beq k 1711 then 128 else 0)) else (bif Nat.blt k 1723 then (bif Nat.beq k 1716 then 42 else 0) else (bif Nat.blt k 1732 then (bif Nat.beq k 1723 then 48 else 0) else (bif Nat.beq k 1732 then 241 else 0)))) else (bif Nat.blt k 1745 then (bif Nat.blt k 1742 then (bif Nat.beq k 1735 then 243 else 0) else (bif Nat.beq k 1742 then 237 else 0)) else (bif Nat.blt k 1748 then (bif Nat.beq k 1745 then 239 else 0) else (bif Nat.blt k 1751 then (bif Nat.beq k 1748 then 233 else 0) else (bif Nat.beq k 1751 then 235 else 0))))) else (bif Nat.blt k 2059 then (bif Nat.blt k 1763 then (bif Nat.blt k 1760 then (bif Nat.beq k 1757 then 123 else 0) else (bif Nat.beq k 1760 then 126 else 0)) else (bif Nat.blt k 1779 then (bif Nat.beq k 1763 then 231 else 0) else (bif Nat.blt k 1782 then (bif Nat.beq k 1779 then 52 else 0) else (bif Nat.beq k 1782 then 59 else 0)))) else (bif Nat.blt k 2069 then (bif Nat.blt k 2065 then (bif Nat.beq k 2059 then 92 else 0) else (bif Nat.beq k 2065 then 96 else 0)) else (bif Nat.blt k 2076 then (bif Nat.beq k 2069 then 99 else 0) else (bif Nat.blt k 2094 then (bif Nat.beq k 2076 then 103 else 0) else (bif Nat.beq k 2094 then 50 else 0)))))))) else (bif Nat.blt k 3257 then (bif Nat.blt k 3150 then (bif Nat.blt k 2598 then (bif Nat.blt k 2581 then (bif Nat.blt k 2569 then (bif Nat.blt k 2099 then (bif Nat.beq k 2098 then 46 else 0) else (bif Nat.beq k 2099 then 57 else 0)) else (bif Nat.blt k 2575 then (bif Nat.beq k 2569 then 60 else 0) else (bif Nat.blt k 2578 then (bif Nat.beq k 2575 then 62 else 0) else (bif Nat.beq k 2578 then 64 else 0)))) else (bif Nat.blt k 2588 then (bif Nat.blt k 2584 then (bif Nat.beq k 2581 then 65 else 0) else (bif Nat.beq k 2584 then 36 else 0)) else (bif Nat.blt k 2591 then (bif Nat.beq k 2588 then 41 else 0) else (bif Nat.blt k 2594 then (bif Nat.beq k 2591 then 44 else 0) else (bif Nat.beq k 2594 then 49 else 0))))) else (bif Nat.blt k 3100 then (bif Nat.blt k 2604 then (bif Nat.blt k 2601 then (bif Nat.beq k 2598 then 53 else 0) else (bif Nat.beq k 2601 then 54 else 0)) else (bif Nat.blt k 3082 then (bif Nat.beq k 2604 then 56 else 0) else (bif Nat.blt k 3091 then (bif Nat.beq k 3082 then 317 else 0) else (bif Nat.beq k 3091 then 318 else 0)))) else (bif Nat.blt k 3111 then (bif Nat.blt k 3107 then (bif Nat.beq k 3100 then 319 else 0) else (bif Nat.beq k 3107 then 320 else 0)) else (bif Nat.blt k 3115 then (bif Nat.beq k 3111 then 279 else 0) else (bif Nat.blt k 3134 then (bif Nat.beq k 3115 then 104 else 0) else (bif Nat.beq k 3134 then 93 else 0)))))) else (bif Nat.blt k 3213 then (bif Nat.blt k 3179 then (bif Nat.blt k 3172 then (bif Nat.blt k 3160 then (bif Nat.beq k 3150 then 97 else 0) else (bif Nat.beq k 3160 then 100 else 0)) else (bif Nat.blt k 3175 then (bif Nat.beq k 3172 then 175 else 0) else (bif Nat.blt k 3176 then (bif Nat.beq k 3175 then 172 else 0) else (bif Nat.beq k 3176 then 162 else 0)))) else (bif Nat.blt k 3185 then (bif Nat.blt k 3182 then (bif Nat.beq k 3179 then 165 else 0) else (bif Nat.beq k 3182 then 168 else 0)) else (bif Nat.blt k 3194 then (bif Nat.beq k 3185 then 170 else 0) else (bif Nat.blt k 3210 then (bif Nat.beq k 3194 then 47 else 0) else (bif Nat.beq k 3210 then 122 else 0))))) else (bif Nat.blt k 3235 then (bif Nat.blt k 3219 then (bif Nat.blt k 3216 then (bif Nat.beq k 3213 then 125 else 0) else (bif Nat.beq k 3216 then 129 else 0)) else (bif Nat.blt k 3222 then (bif Nat.beq k 3219 then 132 else 0) else (bif Nat.blt k 3234 then (bif Nat.beq k 3222 then 281 else 0) else (bif Nat.beq k 3234 then 40 else 0)))) else (bif Nat.blt k 3241 then (bif Nat.blt k 3238 then (bif Nat.beq k 3235 then 43 else 0) else (bif Nat.beq k 3238 then 55 else 0)) else (bif Nat.blt k 3244 then (bif Nat.beq k 3241 then 51 else 0) else (bif Nat.blt k 3254 then (bif Nat.beq k 3244 then 58 else 0) else (bif Nat.beq k 3254 then 63 else 0))))))) else (bif Nat.blt k 3647 then (bif Nat.blt k 3616 then (bif Nat.blt k 3600 then (bif Nat.blt k 3274 then (bif Nat.blt k 3271 then (bif Nat.beq k 3257 then 61 else 0) else (bif Nat.beq k 3271 then 283 else 0)) else (bif Nat.blt k 3593 then (bif Nat.beq k 3274 then 285 else 0) else (bif Nat.blt k 3597 then (bif Nat.beq k 3593 then 775 else 0) else (bif Nat.beq k 3597 then 776 else 0)))) else (bif Nat.blt k 3606 then (bif Nat.blt k 3603 then (bif Nat.beq k 3600 then 777 else 0) else (bif Nat.beq k 3603 then 778 else 0)) else (bif Nat.blt k 3609 then (bif Nat.beq k 3606 then 779 else 0) else (bif Nat.blt k 3612 then (bif Nat.beq k 3609 then 780 else 0) else (bif Nat.beq k 3612 then 781 else 0))))) else (bif Nat.blt k 3632 then (bif Nat.blt k 3622 then (bif Nat.blt k 3619 then (bif Nat.beq k 3616 then 782 else 0) else (bif Nat.beq k 3619 then 783 else 0)) else (bif Nat.blt k 3626 then (bif Nat.beq k 3622 then 787 else 0) else (bif Nat.blt k 3629 then (bif Nat.beq k 3626 then 790 else 0) else (bif Nat.beq k 3629 then 791 else 0)))) else (bif Nat.blt k 3638 then (bif Nat.blt k 3635 then (bif Nat.beq k 3632 then 792 else 0) else (bif Nat.beq k 3635 then 793 else 0)) else (bif Nat.blt k 3641 then (bif Nat.beq k 3638 then 794 else 0) else (bif Nat.blt k 3644 then (bif Nat.beq k 3641 then 798 else 0) else (bif Nat.beq k 3644 then 799 else 0)))))) else (bif Nat.blt k 3693 then (bif Nat.blt k 3662 then (bif Nat.blt k 3653 then (bif Nat.blt k 3650 then (bif Nat.beq k 3647 then 800 else 0) else (bif Nat.beq k 3650 then 801 else 0)) else (bif Nat.blt k 3656 then (bif Nat.beq k 3653 then 802 else 0) else (bif Nat.blt k 3659 then (bif Nat.beq k 3656 then 803 else 0) else (bif Nat.beq k 3659 then 804 else 0)))) else (bif Nat.blt k 3668 then (bif Nat.blt k 3665 then (bif Nat.beq k 3662 then 805 else 0) else (bif Nat.beq k 3665 then 806 else 0)) else (bif Nat.blt k 3671 then (bif Nat.beq k 3668 then 807 else 0) else (bif Nat.blt k 3674 then (bif Nat.beq k 3671 then 774 else 0) else (bif Nat.beq k 3674 then 784 else 0))))) else (bif Nat.blt k 3787 then (bif Nat.blt k 3708 then (bif Nat.blt k 3705 then (bif Nat.beq k 3693 then 797 else 0) else (bif Nat.beq k 3705 then 785 else 0)) else (bif Nat.blt k 3753 then (bif Nat.beq k 3708 then 786 else 0) else (bif Nat.blt k 3756 then (bif Nat.beq k 3753 then 796 else 0) else (bif Nat.beq k 3756 then 795 else 0)))) else (bif Nat.blt k 3800 then (bif Nat.blt k 3790 then (bif Nat.beq k 3787 then 808 else 0) else (bif Nat.beq k 3790 then 809 else 0)) else (bif Nat.blt k 3803 then (bif Nat.beq k 3800 then 788 else 0) else (bif Nat.blt k 3816 then (bif Nat.beq k 3803 then 810 else 0) else (bif Nat.beq k 3816 then 789 else 0)))))))))
def dp_mth (k : Nat) : Nat := (bif Nat.blt k 3144 then (bif Nat.blt k 1662 then (bif Nat.blt k 1148 then (bif Nat.blt k 1101 then (bif Nat.blt k 513 then (bif Nat.blt k 34 then (bif Nat.blt k 30 then (bif Nat.beq k 3 then 120 else 0) else (bif Nat.beq k 30 then 478 else 0)) else (bif Nat.blt k 38 then (bif Nat.beq k 34 then 479 else 0) else (bif Nat.blt k 42 then (bif Nat.beq k 38 then 450 else 0) else (bif Nat.beq k 42 then 454 else 0)))) else (bif Nat.blt k 1037 then (bif Nat.blt k 537 then (bif Nat.beq k 513 then 225 else 0) else (bif Nat.blt k 1029 then (bif Nat.beq k 537 then 627 else 0) else (bif Nat.beq k 1029 then 147 else 0))) else (bif Nat.blt k 1085 then (bif Nat.beq k 1037 then 149 else 0) else (bif Nat.blt k 1097 then (bif Nat.beq k 1085 then 402 else 0) else (bif Nat.beq k 1097 then 406 else 0))))) else (bif Nat.blt k 1117 then (bif Nat.blt k 1107 then (bif Nat.blt k 1104 then (bif Nat.beq k 1101 then 410 else 0) else (bif Nat.beq k 1104 then 414 else 0)) else (bif Nat.blt k 1110 then (bif Nat.beq k 1107 then 480 else 0) else (bif Nat.blt k 1113 then (bif Nat.beq k 1110 then 513 else 0) else (bif Nat.beq k 1113 then 418 else 0)))) else (bif Nat.blt k 1137 then (bif Nat.blt k 1122 then (bif Nat.beq k 1117 then 422 else 0) else (bif Nat.blt k 1130 then (bif Nat.beq k 1122 then 426 else 0) else (bif Nat.beq k 1130 then 430 else 0))) else (bif Nat.blt k 1140 then (bif Nat.beq k 1137 then 463 else 0) else (bif Nat.blt k 1144 then (bif Nat.beq k 1140 then 474 else 0) else (bif Nat.beq k 1144 then 434 else 0)))))) else (bif Nat.blt k 1555 then (bif Nat.blt k 1171 then (bif Nat.blt k 1158 then (bif Nat.blt k 1154 then (bif Nat.beq k 1148 then 442 else 0) else (bif Nat.beq k 1154 then 446 else 0)) else (bif Nat.blt k 1161 then (bif Nat.beq k 1158 then 484 else 0) else (bif Nat.blt k 1164 then (bif Nat.beq k 1161 then 492 else 0) else (bif Nat.beq k 1164 then 488 else 0)))) else (bif Nat.blt k 1184 then (bif Nat.blt k 1174 then (bif Nat.beq k 1171 then 496 else 0) else (bif Nat.blt k 1178 then (bif Nat.beq k 1174 then 505 else 0) else (bif Nat.beq k 1178 then 509 else 0))) else (bif Nat.blt k 1189 then (bif Nat.beq k 1184 then 500 else 0) else (bif Nat.blt k 1539 then (bif Nat.beq k 1189 then 517 else 0) else (bif Nat.beq k 1539 then 216 else 0))))) else (bif Nat.blt k 1610 then (bif Nat.blt k 1595 then (bif Nat.blt k 1571 then (bif Nat.beq k 1555 then 220 else 0) else (bif Nat.beq k 1571 then 222 else 0)) else (bif Nat.blt k 1600 then (bif Nat.beq k 1595 then 564 else 0) else (bif Nat.blt k 1604 then (bif Nat.beq k 1600 then 568 else 0) else (bif Nat.beq k 1604 then 611 else 0)))) else (bif Nat.blt k 1636 then (bif Nat.blt k 1616 then (bif Nat.beq k 1610 then 643 else 0) else (bif Nat.blt k 1623 then (bif Nat.beq k 1616 then 652 else 0) else (bif Nat.beq k 1623 then 660 else 0))) else (bif Nat.blt k 1648 then (bif Nat.beq k 1636 then 665 else 0) else (bif Nat.blt k 1655 then (bif Nat.beq k 1648 then 656 else 0) else (bif Nat.beq k 1655 then 664 else 0))))))) else (bif Nat.blt k 2084 then (bif Nat.blt k 1724 then (bif Nat.blt k 1694 then (bif Nat.blt k 1680 then (bif Nat.blt k 1677 then (bif Nat.beq k 1662 then 572 else 0) else (bif Nat.beq k 1677 then 573 else 0)) else (bif Nat.blt k 1684 then (bif Nat.beq k 1680 then 597 else 0) else (bif Nat.blt k 1688 then (bif Nat.beq k 1684 then 602 else 0) else (bif Nat.beq k 1688 then 606 else 0)))) else (bif Nat.blt k 1707 then (bif Nat.blt k 1698 then (bif Nat.beq k 1694 then 580 else 0) else (bif Nat.blt k 1701 then (bif Nat.beq k 1698 then 577 else 0) else (bif Nat.beq k 1701 then 578 else 0))) else (bif Nat.blt k 1712 then (bif Nat.beq k 1707 then 579 else 0) else (bif Nat.blt k 1719 then (bif Nat.beq k 1712 then 592 else 0) else (bif Nat.beq k 1719 then 601 else 0))))) else (bif Nat.blt k 1770 then (bif Nat.blt k 1738 then (bif Nat.blt k 1728 then (bif Nat.beq k 1724 then 610 else 0) else (bif Nat.beq k 1728 then 584 else 0)) else (bif Nat.blt k 1754 then (bif Nat.beq k 1738 then 588 else 0) else (bif Nat.blt k 1766 then (bif Nat.beq k 1754 then 596 else 0) else (bif Nat.beq k 1766 then 615 else 0)))) else (bif Nat.blt k 2051 then (bif Nat.blt k 1773 then (bif Nat.beq k 1770 then 623 else 0) else (bif Nat.blt k 1776 then (bif Nat.beq k 1773 then 631 else 0) else (bif Nat.beq k 1776 then 619 else 0))) else (bif Nat.blt k 2072 then (bif Nat.beq k 2051 then 28 else 0) else (bif Nat.blt k 2080 then (bif Nat.beq k 2072 then 32 else 0) else (bif Nat.beq k 2080 then 357 else 0)))))) else (bif Nat.blt k 2637 then (bif Nat.blt k 2614 then (bif Nat.blt k 2563 then (bif Nat.blt k 2088 then (bif Nat.beq k 2084 then 345 else 0) else (bif Nat.beq k 2088 then 693 else 0)) else (bif Nat.blt k 2607 then (bif Nat.beq k 2563 then 35 else 0) else (bif Nat.blt k 2611 then (bif Nat.beq k 2607 then 438 else 0) else (bif Nat.beq k 2611 then 467 else 0)))) else (bif Nat.blt k 2624 then (bif Nat.blt k 2617 then (bif Nat.beq k 2614 then 468 else 0) else (bif Nat.blt k 2620 then (bif Nat.beq k 2617 then 469 else 0) else (bif Nat.beq k 2620 then 470 else 0))) else (bif Nat.blt k 2628 then (bif Nat.beq k 2624 then 541 else 0) else (bif Nat.blt k 2632 then (bif Nat.beq k 2628 then 548 else 0) else (bif Nat.beq k 2632 then 544 else 0))))) else (bif Nat.blt k 3106 then (bif Nat.blt k 3081 then (bif Nat.blt k 2640 then (bif Nat.beq k 2637 then 545 else 0) else (bif Nat.blt k 3073 then (bif Nat.beq k 2640 then 552 else 0) else (bif Nat.beq k 3073 then 20 else 0))) else (bif Nat.blt k 3090 then (bif Nat.beq k 3081 then 25 else 0) else (bif Nat.blt k 3097 then (bif Nat.beq k 3090 then 117 else 0) else (bif Nat.beq k 3097 then 144 else 0)))) else (bif Nat.blt k 3126 then (bif Nat.blt k 3119 then (bif Nat.beq k 3106 then 213 else 0) else (bif Nat.blt k 3123 then (bif Nat.beq k 3119 then 334 else 0) else (bif Nat.beq k 3123 then 337 else 0))) else (bif Nat.blt k 3130 then (bif Nat.beq k 3126 then 341 else 0) else (bif Nat.blt k 3138 then (bif Nat.beq k 3130 then 353 else 0) else (bif Nat.beq k 3138 then 358 else 0)))))))) else (bif Nat.blt k 3783 then (bif Nat.blt k 3684 then (bif Nat.blt k 3225 then (bif Nat.blt k 3188 then (bif Nat.blt k 3163 then (bif Nat.blt k 3147 then (bif Nat.beq k 3144 then 362 else 0) else (bif Nat.beq k 3147 then 370 else 0)) else (bif Nat.blt k 3166 then (bif Nat.beq k 3163 then 386 else 0) else (bif Nat.blt k 3169 then (bif Nat.beq k 3166 then 390 else 0) else (bif Nat.beq k 3169 then 398 else 0)))) else (bif Nat.blt k 3199 then (bif Nat.blt k 3191 then (bif Nat.beq k 3188 then 531 else 0) else (bif Nat.blt k 3195 then (bif Nat.beq k 3191 then 532 else 0) else (bif Nat.beq k 3195 then 537 else 0))) else (bif Nat.blt k 3203 then (bif Nat.beq k 3199 then 560 else 0) else (bif Nat.blt k 3207 then (bif Nat.beq k 3203 then 639 else 0) else (bif Nat.beq k 3207 then 648 else 0))))) else (bif Nat.blt k 3268 then (bif Nat.blt k 3231 then (bif Nat.blt k 3228 then (bif Nat.beq k 3225 then 673 else 0) else (bif Nat.beq k 3228 then 674 else 0)) else (bif Nat.blt k 3260 then (bif Nat.beq k 3231 then 678 else 0) else (bif Nat.blt k 3263 then (bif Nat.beq k 3260 then 687 else 0) else (bif Nat.beq k 3263 then 688 else 0)))) else (bif Nat.blt k 3585 then (bif Nat.blt k 3277 then (bif Nat.beq k 3268 then 689 else 0) else (bif Nat.blt k 3282 then (bif Nat.beq k 3277 then 457 else 0) else (bif Nat.beq k 3282 then 460 else 0))) else (bif Nat.blt k 3677 then (bif Nat.beq k 3585 then 773 else 0) else (bif Nat.blt k 3681 then (bif Nat.beq k 3677 then 906 else 0) else (bif Nat.beq k 3681 then 910 else 0)))))) else (bif Nat.blt k 3734 then (bif Nat.blt k 3714 then (bif Nat.blt k 3697 then (bif Nat.blt k 3690 then (bif Nat.beq k 3684 then 957 else 0) else (bif Nat.beq k 3690 then 958 else 0)) else (bif Nat.blt k 3701 then (bif Nat.beq k 3697 then 895 else 0) else (bif Nat.blt k 3711 then (bif Nat.beq k 3701 then 902 else 0) else (bif Nat.beq k 3711 then 934 else 0)))) else (bif Nat.blt k 3724 then (bif Nat.blt k 3718 then (bif Nat.beq k 3714 then 946 else 0) else (bif Nat.blt k 3721 then (bif Nat.beq k 3718 then 942 else 0) else (bif Nat.beq k 3721 then 950 else 0))) else (bif Nat.blt k 3728 then (bif Nat.beq k 3724 then 954 else 0) else (bif Nat.blt k 3731 then (bif Nat.beq k 3728 then 959 else 0) else (bif Nat.beq k 3731 then 930 else 0))))) else (bif Nat.blt k 3759 then (bif Nat.blt k 3743 then (bif Nat.blt k 3737 then (bif Nat.beq k 3734 then 938 else 0) else (bif Nat.blt k 3740 then (bif Nat.beq k 3737 then 983 else 0) else (bif Nat.beq k 3740 then 975 else 0))) else (bif Nat.blt k 3746 then (bif Nat.beq k 3743 then 987 else 0) else (bif Nat.blt k 3750 then (bif Nat.beq k 3746 then 971 else 0) else (bif Nat.beq k 3750 then 979 else 0)))) else (bif Nat.blt k 3772 then (bif Nat.blt k 3763 then (bif Nat.beq k 3759 then 967 else 0) else (bif Nat.blt k 3768 then (bif Nat.beq k 3763 then 1013 else 0) else (bif Nat.beq k 3768 then 1010 else 0))) else (bif Nat.blt k 3775 then (bif Nat.beq k 3772 then 1016 else 0) else (bif Nat.blt k 3779 then (bif Nat.beq k 3775 then 1007 else 0) else (bif Nat.beq k 3779 then 1003 else 0))))))) else (bif Nat.blt k 5164 then (bif Nat.blt k 5138 then (bif Nat.blt k 3812 then (bif Nat.blt k 3797 then (bif Nat.blt k 3793 then (bif Nat.beq k 3783 then 999 else 0) else (bif Nat.beq k 3793 then 1025 else 0)) else (bif Nat.blt k 3806 then (bif Nat.beq k 3797 then 1021 else 0) else (bif Nat.blt k 3809 then (bif Nat.beq k 3806 then 1045 else 0) else (bif Nat.beq k 3809 then 1037 else 0)))) else (bif Nat.blt k 3826 then (bif Nat.blt k 3819 then (bif Nat.beq k 3812 then 1041 else 0) else (bif Nat.blt k 3822 then (bif Nat.beq k 3819 then 1049 else 0) else (bif Nat.beq k 3822 then 1053 else 0))) else (bif Nat.blt k 5127 then (bif Nat.beq k 3826 then 1065 else 0) else (bif Nat.blt k 5135 then (bif Nat.beq k 5127 then 698 else 0) else (bif Nat.beq k 5135 then 17 else 0))))) else (bif Nat.blt k 5149 then (bif Nat.blt k 5143 then (bif Nat.blt k 5139 then (bif Nat.beq k 5138 then 770 else 0) else (bif Nat.beq k 5139 then 330 else 0)) else (bif Nat.blt k 5144 then (bif Nat.beq k 5143 then 891 else 0) else (bif Nat.blt k 5148 then (bif Nat.beq k 5144 then 349 else 0) else (bif Nat.beq k 5148 then 898 else 0)))) else (bif Nat.blt k 5158 then (bif Nat.blt k 5153 then (bif Nat.beq k 5149 then 366 else 0) else (bif Nat.blt k 5154 then (bif Nat.beq k 5153 then 914 else 0) else (bif Nat.beq k 5154 then 374 else 0))) else (bif Nat.blt k 5159 then (bif Nat.beq k 5158 then 918 else 0) else (bif Nat.blt k 5163 then (bif Nat.beq k 5159 then 382 else 0) else (bif Nat.beq k 5163 then 922 else 0)))))) else (bif Nat.blt k 5189 then (bif Nat.blt k 5176 then (bif Nat.blt k 5169 then (bif Nat.blt k 5168 then (bif Nat.beq k 5164 then 394 else 0) else (bif Nat.beq k 5168 then 963 else 0)) else (bif Nat.blt k 5172 then (bif Nat.beq k 5169 then 523 else 0) else (bif Nat.blt k 5173 then (bif Nat.beq k 5172 then 991 else 0) else (bif Nat.beq k 5173 then 527 else 0)))) else (bif Nat.blt k 5181 then (bif Nat.blt k 5177 then (bif Nat.beq k 5176 then 926 else 0) else (bif Nat.blt k 5180 then (bif Nat.beq k 5177 then 533 else 0) else (bif Nat.beq k 5180 then 995 else 0))) else (bif Nat.blt k 5184 then (bif Nat.beq k 5181 then 556 else 0) else (bif Nat.blt k 5185 then (bif Nat.beq k 5184 then 1017 else 0) else (bif Nat.beq k 5185 then 635 else 0))))) else (bif Nat.blt k 5201 then (bif Nat.blt k 5194 then (bif Nat.blt k 5190 then (bif Nat.beq k 5189 then 1029 else 0) else (bif Nat.blt k 5193 then (bif Nat.beq k 5190 then 644 else 0) else (bif Nat.beq k 5193 then 1033 else 0))) else (bif Nat.blt k 5197 then (bif Nat.beq k 5194 then 669 else 0) else (bif Nat.blt k 5198 then (bif Nat.beq k 5197 then 1057 else 0) else (bif Nat.beq k 5198 then 679 else 0)))) else (bif Nat.blt k 5208 then (bif Nat.blt k 5202 then (bif Nat.beq k 5201 then 1061 else 0) else (bif Nat.blt k 5207 then (bif Nat.beq k 5202 then 694 else 0) else (bif Nat.beq k 5207 then 1069 else 0))) else (bif Nat.blt k 5211 then (bif Nat.beq k 5208 then 887 else 0) else (bif Nat.blt k 5214 then (bif Nat.beq k 5211 then 683 else 0) else (bif Nat.beq k 5214 then 1073 else 0)))))))))
def dp_cls (k : Nat) : Nat := (bif Nat.blt k 3088 then (bif Nat.blt k 1553 then (bif Nat.blt k 1547 then (bif Nat.beq k 1035 then 148 else 0) else (bif Nat.beq k 1547 then 217 else 0)) else (bif Nat.blt k 2057 then (bif Nat.beq k 1553 then 219 else 0) else (bif Nat.blt k 3079 then (bif Nat.beq k 2057 then 29 else 0) else (bif Nat.beq k 3079 then 23 else 0)))) else (bif Nat.blt k 3104 then (bif Nat.blt k 3095 then (bif Nat.beq k 3088 then 115 else 0) else (bif Nat.beq k 3095 then 142 else 0)) else (bif Nat.blt k 5128 then (bif Nat.beq k 3104 then 211 else 0) else (bif Nat.blt k 5136 then (bif Nat.beq k 5128 then 15 else 0) else (bif Nat.beq k 5136 then 768 else 0)))))
def dp_cst (k : Nat) : Nat := (bif Nat.blt k 4362 then (bif Nat.blt k 4361 then (bif Nat.beq k 1188 then 504 else 0) else (bif Nat.beq k 4361 then 520 else 0)) else (bif Nat.blt k 4363 then (bif Nat.beq k 4362 then 521 else 0) else (bif Nat.beq k 4363 then 522 else 0)))
def dp_stc (k : Nat) : Nat := (bif Nat.blt k 3154 then (bif Nat.beq k 2073 then 90 else 0) else (bif Nat.blt k 3157 then (bif Nat.beq k 3154 then 378 else 0) else (bif Nat.beq k 3157 then 380 else 0)))
/-- of each method: where its code stands in tables_1, whether it has a receiver, where that is said, where it is selected in lw_tbl, where its class is said to be initialised -/
def dp_ms : List (Nat × Nat × Nat × Nat × Nat) := [(119, 1, 118, 0, 4), (393, 1, 391, 448, 4), (421, 1, 419, 476, 4), (477, 1, 475, 532, 4), (453, 1, 451, 508, 4), (449, 1, 447, 504, 4), (224, 1, 223, 0, 7), (630, 1, 628, 685, 7), (626, 1, 624, 681, 7), (634, 1, 632, 689, 7), (146, 1, 145, 0, 5), (340, 1, 338, 395, 5), (401, 1, 399, 456, 5), (413, 1, 412, 0, 5), (429, 1, 428, 3, 5), (417, 1, 416, 1, 5), (425, 1, 424, 2, 5), (483, 1, 482, 5, 5), (487, 1, 486, 6, 5), (491, 1, 490, 7, 5), (495, 1, 494, 8, 5), (499, 1, 498, 9, 5), (503, 1, 502, 10, 5), (508, 1, 507, 11, 5), (512, 1, 511, 12, 5), (516, 1, 515, 13, 5), (215, 1, 214, 0, 6), (563, 1, 561, 618, 6), (642, 1, 640, 697, 6), (651, 1, 649, 706, 6), (655, 1, 653, 710, 6), (677, 1, 675, 732, 6), (663, 1, 661, 718, 6), (659, 1, 658, 28, 6), (571, 1, 570, 16, 6), (576, 1, 575, 17, 6), (600, 1, 599, 22, 6), (605, 1, 604, 23, 6), (609, 1, 608, 24, 6), (583, 1, 582, 18, 6), (595, 1, 594, 21, 6), (587, 1, 586, 19, 6), (591, 1, 590, 20, 6), (614, 1, 613, 25, 6), (618, 1, 617, 26, 6), (622, 1, 621, 27, 6), (27, 1, 26, 0, 2), (356, 1, 354, 411, 2), (344, 1, 342, 399, 2), (389, 1, 387, 444, 2), (373, 1, 371, 428, 2), (692, 1, 690, 747, 2), (405, 1, 403, 460, 2), (409, 1, 407, 464, 2), (567, 1, 565, 622, 2), (34, 1, 33, 0, 3), (348, 1, 346, 403, 3), (361, 1, 359, 416, 3), (365, 1, 363, 420, 3), (433, 1, 431, 488, 3), (441, 1, 440, 4, 3), (437, 1, 435, 492, 3), (445, 1, 443, 500, 3), (466, 1, 464, 521, 3), (473, 1, 471, 528, 3), (668, 1, 666, 723, 3), (540, 1, 538, 595, 3), (543, 0, 542, 0, 3), (551, 1, 550, 14, 3), (555, 1, 554, 15, 3), (19, 1, 18, 0, 1), (333, 1, 331, 388, 1), (352, 1, 350, 407, 1), (369, 1, 367, 424, 1), (377, 1, 375, 432, 1), (385, 1, 383, 440, 1), (397, 1, 395, 452, 1), (526, 1, 524, 581, 1), (530, 1, 528, 585, 1), (536, 1, 534, 591, 1), (559, 1, 557, 614, 1), (638, 1, 636, 693, 1), (647, 1, 645, 702, 1), (672, 1, 670, 727, 1), (682, 1, 680, 737, 1), (701, 1, 699, 756, 1), (686, 1, 684, 741, 1), (336, 0, 335, 0, 1), (456, 0, 455, 0, 1), (772, 1, 771, 0, 8), (890, 1, 888, 945, 8), (897, 0, 896, 0, 8), (905, 1, 904, 30, 8), (909, 1, 908, 31, 8), (913, 1, 912, 32, 8), (937, 1, 936, 34, 8), (956, 0, 955, 0, 8), (894, 1, 892, 949, 8), (901, 1, 899, 956, 8), (917, 1, 915, 972, 8), (921, 1, 919, 976, 8), (925, 1, 923, 980, 8), (933, 1, 932, 33, 8), (949, 1, 948, 37, 8), (945, 1, 944, 36, 8), (953, 1, 952, 38, 8), (962, 1, 961, 39, 8), (941, 1, 940, 35, 8), (929, 1, 927, 984, 8), (990, 1, 989, 45, 8), (978, 1, 977, 42, 8), (974, 1, 973, 41, 8), (986, 1, 985, 44, 8), (982, 1, 981, 43, 8), (970, 1, 969, 40, 8), (966, 1, 964, 1021, 8), (994, 1, 992, 1049, 8), (1012, 0, 1011, 0, 8), (1009, 0, 1008, 0, 8), (1006, 1, 1005, 47, 8), (1002, 1, 1001, 46, 8), (998, 1, 996, 1053, 8), (1028, 1, 1027, 49, 8), (1024, 1, 1023, 48, 8), (1020, 1, 1018, 1075, 8), (1040, 1, 1039, 50, 8), (1048, 1, 1047, 52, 8), (1044, 1, 1043, 51, 8), (1032, 1, 1030, 1087, 8), (1036, 1, 1034, 1091, 8), (1052, 1, 1051, 53, 8), (1056, 1, 1055, 54, 8), (1060, 1, 1058, 1115, 8), (1068, 1, 1067, 55, 8), (1064, 1, 1062, 1119, 8), (1072, 1, 1070, 1127, 8), (1076, 1, 1074, 1131, 8), (1015, 0, 1014, 0, 10), (519, 0, 518, 0, 10), (459, 0, 458, 0, 9), (462, 0, 461, 0, 9), (547, 0, 546, 0, 9), (0, 1, 0, 0, 0)]
def dm_T (ci : Nat) : u_T := match ci with
  | 0 => TX0
  | 1 => TX1
  | 2 => TX2
  | 3 => TX3
  | 4 => TX4
  | 5 => TX5
  | 6 => TX6
  | _ => TX7
def dm_N (ci : Nat) : Nat := match ci with
  | 0 => 4
  | 1 => 11
  | 2 => 17
  | 3 => 15
  | 4 => 4
  | 5 => 11
  | 6 => 4
  | _ => 37
def dm_ty (ci : Nat) : Nat → FieldType := match ci with
  | 0 => tyX0
  | 1 => tyX1
  | 2 => tyX2
  | 3 => tyX3
  | 4 => tyX4
  | 5 => tyX5
  | 6 => tyX6
  | _ => tyX7
def dp_ins (ci : Nat) : Nat := match ci with
  | 0 => 116
  | 1 => 221
  | 2 => 143
  | 3 => 212
  | 4 => 24
  | 5 => 31
  | 6 => 16
  | _ => 769
def dp_ini (ci : Nat) : Nat := match ci with
  | 0 => 4
  | 1 => 7
  | 2 => 5
  | 3 => 6
  | 4 => 2
  | 5 => 3
  | 6 => 1
  | _ => 8
def dm_c (own : Nat) : String := dm_cn.getD own ""
def dc_fld (k : Nat) : Bool := match dg_fld k with
  | none => true
  | some x => decide (tables_1[dp_fld k]? = some (.fieldLink (dm_c (k / 512)) (k % 512) (dm_T x.1 x.2.1).1 (dm_T x.1 x.2.1).2.1 (dm_T x.1 x.2.1).2.2.1)) && (decide (x.1 < 8) && (decide (x.2.1 < dm_N x.1) && (decide ((dm_T x.1 x.2.1).2.2.2 = Nat.ble 4 x.2.2) && (decide (dm_ty x.1 x.2.1 = .int ∧ x.2.2 % 4 = 0) || (decide (dm_ty x.1 x.2.1 = .boolean ∧ x.2.2 % 4 = 1) || (match dm_ty x.1 x.2.1 with
    | .object _ => decide (x.2.2 % 4 = 2)
    | .array _ => decide (x.2.2 % 4 = 2)
    | _ => false))) && decide ((dm_T x.1 x.2.1).1 = dm_c x.1))))
def dm_prm (d : String) : Option Nat := (parseMethodDescriptor d).map (fun d => d.parameters.length)
def dc_mth (k : Nat) : Bool := match dg_mth k with
  | none => true
  | some m => match m.1 with
    | 5 => decide (tables_1[dp_mth k]? = some (.methodLink (dm_c (k / 512)) (k % 512) objectInit))
    | 6 => decide (tables_1[dp_mth k]? = some (.methodLink (dm_c (k / 512)) (k % 512) Lib.Math.abs.name))
    | 7 => decide (tables_1[dp_mth k]? = some (.methodLink (dm_c (k / 512)) (k % 512) Lib.Math.max.name))
    | 8 => decide (tables_1[dp_mth k]? = some (.methodLink (dm_c (k / 512)) (k % 512) Lib.Math.min.name))
    | 9 => decide (tables_1[dp_mth k]? = some (.methodLink RL (k % 512) yL_at)) && decide (k = 5202)
    | kind => match dm_ms[m.2.1]? with
      | none => false
      | some r => decide (tables_1[dp_mth k]? = some (bif Nat.beq kind 2 || Nat.beq kind 4 then .methodLinkNest (dm_c (k / 512)) (k % 512) r.1 "PenArm" else .methodLink (dm_c (k / 512)) (k % 512) r.1)) && (decide (r.2.2.1 = m.2.2.2.1) && (decide (dm_prm r.1.desc = some m.2.2.1) && (decide (kind < 5) && (decide (m.2.1 < 139) && (decide ((dp_ms.getD m.2.1 (0, 0, 0, 0, 0)).2.1 = (bif Nat.beq kind 1 || Nat.beq kind 2 then 0 else 1)) && (decide (r.1.name = "<init>") == (Nat.beq kind 3 || Nat.beq kind 4) && (match r.2.2.2 with
        | none => Nat.beq m.2.2.2.2 0
        | some .int => Nat.beq m.2.2.2.2 1
        | some .boolean => Nat.beq m.2.2.2.2 1
        | some (.object _) => Nat.beq m.2.2.2.2 2
        | _ => false)))))))
def dc_cls (k : Nat) : Bool := match dg_cls k with
  | none => true
  | some c => decide (tables_1[dp_cls k]? = some (.classLink (dm_c (k / 512)) (k % 512) (dm_c c))) && decide (c < 8)
def dc_cst (k : Nat) : Bool := match dg_cst k with
  | none => true
  | some v => decide (tables_1[dp_cst k]? = some (.constant (dm_c (k / 512)) (k % 512) v))
def dm_sn (k : Nat) : String := match k with
  | 0 => "FIRST_PRICE"
  | 1 => "LOWEST_PRICE"
  | _ => "HIGHEST_PRICE"
def dc_stc (k : Nat) : Bool := match dg_stc k with
  | none => true
  | some s => decide (tables_1[dp_stc k]? = some (bif Nat.beq s.2 1 then .fieldLinkNest (dm_c (k / 512)) (k % 512) "PenArm" (dm_sn s.1) "[I" "PenArm" else .fieldLink (dm_c (k / 512)) (k % 512) "PenArm" (dm_sn s.1) "[I")) && decide (s.1 < 3)
theorem dc_fld_ok : (List.range 6144).all dc_fld = true := by decide +kernel
theorem dc_mth_ok : (List.range 6144).all dc_mth = true := by decide +kernel
theorem dc_cls_ok : (List.range 6144).all dc_cls = true := by decide +kernel
theorem dc_cst_ok : (List.range 6144).all dc_cst = true := by decide +kernel
theorem dc_stc_ok : (List.range 6144).all dc_stc = true := by decide +kernel
/-- the methods but the law: code, receiver, selection, initialised class, plain name, class number, the boolean ones -/
def dc_ms (mi : Nat) : Bool := match dm_ms[mi]?, dp_ms[mi]? with
  | some r, some q => (decide (r.1.cls = dm_c (dm_own mi)) && (decide (tables_1[q.2.2.2.2]? = some (.initialized r.1.cls)) && ((bif Nat.beq q.2.1 0 then decide (tables_1[q.2.2.1]? = some (.static r.1)) else decide (tables_1[q.2.2.1]? = some (.instanceMethod r.1))) && (plainName r.1.cls && (decide (r.2.2.1 ≤ 13) && (decide (dm_ini mi = decide (r.1.name = "<init>")) && (decide (r.1.cls ≠ "java/lang/invoke/MethodHandle") && (decide (r.1.cls ≠ "java/lang/invoke/VarHandle") && decide (dm_isb mi = decide (r.2.2.2 = some .boolean)))))))))) 
  | _, _ => false
theorem dc_ms_ok : (List.range 139).all dc_ms = true := by decide +kernel
/-- the methods that are called by a receiver's class -/
def dc_sel (k : Nat) : Bool := match dg_mth k with
  | none => true
  | some m => bif Nat.beq m.1 0 then (match dm_ms[m.2.1]? with
    | none => false
    | some r => decide (lw_tbl[(dp_ms.getD m.2.1 (0, 0, 0, 0, 0)).2.2.2.1]? = some (.selects r.1.cls r.1 r.1))) else true
theorem dc_sel_ok : (List.range 6144).all dc_sel = true := by decide +kernel
def dc_cl (ci : Nat) : Bool := decide (tables_1[dp_ins ci]? = some (.instantiable (dm_c ci) (dm_N ci))) && (decide (tables_1[dp_ini ci]? = some (.initialized (dm_c ci))) && decide (vwCl[ci]?.map (fun q => (q.1, q.2.2)) = some (dm_c ci, dm_N ci)))
theorem dc_cl_ok : (List.range 8).all dc_cl = true := by decide +kernel
def dq_P (mi : Nat) : Prop := ∀ r q, dm_ms[mi]? = some r → dp_ms[mi]? = some q → tables_1[q.1]? = some (.code r.1 r.2.1 r.2.2.1 r.2.2.2)
set_option maxRecDepth 20000 in
theorem dq_0 : dq_P 0 := by
  intro r q h1 h2
  cases h1
  cases h2
  rfl
set_option maxRecDepth 20000 in
theorem dq_1 : dq_P 1 := by
  intro r q h1 h2
  cases h1
  cases h2
  rfl
set_option maxRecDepth 20000 in
theorem dq_2 : dq_P 2 := by
  intro r q h1 h2
  cases h1
  cases h2
  rfl
set_option maxRecDepth 20000 in
theorem dq_3 : dq_P 3 := by
  intro r q h1 h2
  cases h1
  cases h2
  rfl
set_option maxRecDepth 20000 in
theorem dq_4 : dq_P 4 := by
  intro r q h1 h2
  cases h1
  cases h2
  rfl
set_option maxRecDepth 20000 in
theorem dq_5 : dq_P 5 := by
  intro r q h1 h2
  cases h1
  cases h2
  rfl
set_option maxRecDepth 20000 in
theorem dq_6 : dq_P 6 := by
  intro r q h1 h2
  cases h1
  cases h2
  rfl
set_option maxRecDepth 20000 in
theorem dq_7 : dq_P 7 := by
  intro r q h1 h2
  cases h1
  cases h2
  rfl
set_option maxRecDepth 20000 in
theorem dq_8 : dq_P 8 := by
  intro r q h1 h2
  cases h1
  cases h2
  rfl
set_option maxRecDepth 20000 in
theorem dq_9 : dq_P 9 := by
  intro r q h1 h2
  cases h1
  cases h2
  rfl
set_option maxRecDepth 20000 in
theorem dq_10 : dq_P 10 := by
  intro r q h1 h2
  cases h1
  cases h2
  rfl
set_option maxRecDepth 20000 in
theorem dq_11 : dq_P 11 := by
  intro r q h1 h2
  cases h1
  cases h2
  rfl
set_option maxRecDepth 20000 in
theorem dq_12 : dq_P 12 := by
  intro r q h1 h2
  cases h1
  cases h2
  rfl
set_option maxRecDepth 20000 in
theorem dq_13 : dq_P 13 := by
  intro r q h1 h2
  cases h1
  cases h2
  rfl
set_option maxRecDepth 20000 in
theorem dq_14 : dq_P 14 := by
  intro r q h1 h2
  cases h1
  cases h2
  rfl
set_option maxRecDepth 20000 in
theorem dq_15 : dq_P 15 := by
  intro r q h1 h2
  cases h1
  cases h2
  rfl
set_option maxRecDepth 20000 in
theorem dq_16 : dq_P 16 := by
  intro r q h1 h2
  cases h1
  cases h2
  rfl
set_option maxRecDepth 20000 in
theorem dq_17 : dq_P 17 := by
  intro r q h1 h2
  cases h1
  cases h2
  rfl
set_option maxRecDepth 20000 in
theorem dq_18 : dq_P 18 := by
  intro r q h1 h2
  cases h1
  cases h2
  rfl
set_option maxRecDepth 20000 in
theorem dq_19 : dq_P 19 := by
  intro r q h1 h2
  cases h1
  cases h2
  rfl
set_option maxRecDepth 20000 in
theorem dq_20 : dq_P 20 := by
  intro r q h1 h2
  cases h1
  cases h2
  rfl
set_option maxRecDepth 20000 in
theorem dq_21 : dq_P 21 := by
  intro r q h1 h2
  cases h1
  cases h2
  rfl
set_option maxRecDepth 20000 in
theorem dq_22 : dq_P 22 := by
  intro r q h1 h2
  cases h1
  cases h2
  rfl
set_option maxRecDepth 20000 in
theorem dq_23 : dq_P 23 := by
  intro r q h1 h2
  cases h1
  cases h2
  rfl
set_option maxRecDepth 20000 in
theorem dq_24 : dq_P 24 := by
  intro r q h1 h2
  cases h1
  cases h2
  rfl
set_option maxRecDepth 20000 in
theorem dq_25 : dq_P 25 := by
  intro r q h1 h2
  cases h1
  cases h2
  rfl
set_option maxRecDepth 20000 in
theorem dq_26 : dq_P 26 := by
  intro r q h1 h2
  cases h1
  cases h2
  rfl
set_option maxRecDepth 20000 in
theorem dq_27 : dq_P 27 := by
  intro r q h1 h2
  cases h1
  cases h2
  rfl
set_option maxRecDepth 20000 in
theorem dq_28 : dq_P 28 := by
  intro r q h1 h2
  cases h1
  cases h2
  rfl
set_option maxRecDepth 20000 in
theorem dq_29 : dq_P 29 := by
  intro r q h1 h2
  cases h1
  cases h2
  rfl
set_option maxRecDepth 20000 in
theorem dq_30 : dq_P 30 := by
  intro r q h1 h2
  cases h1
  cases h2
  rfl
set_option maxRecDepth 20000 in
theorem dq_31 : dq_P 31 := by
  intro r q h1 h2
  cases h1
  cases h2
  rfl
set_option maxRecDepth 20000 in
theorem dq_32 : dq_P 32 := by
  intro r q h1 h2
  cases h1
  cases h2
  rfl
set_option maxRecDepth 20000 in
theorem dq_33 : dq_P 33 := by
  intro r q h1 h2
  cases h1
  cases h2
  rfl
set_option maxRecDepth 20000 in
theorem dq_34 : dq_P 34 := by
  intro r q h1 h2
  cases h1
  cases h2
  rfl
set_option maxRecDepth 20000 in
theorem dq_35 : dq_P 35 := by
  intro r q h1 h2
  cases h1
  cases h2
  rfl
set_option maxRecDepth 20000 in
theorem dq_36 : dq_P 36 := by
  intro r q h1 h2
  cases h1
  cases h2
  rfl
set_option maxRecDepth 20000 in
theorem dq_37 : dq_P 37 := by
  intro r q h1 h2
  cases h1
  cases h2
  rfl
set_option maxRecDepth 20000 in
theorem dq_38 : dq_P 38 := by
  intro r q h1 h2
  cases h1
  cases h2
  rfl
set_option maxRecDepth 20000 in
theorem dq_39 : dq_P 39 := by
  intro r q h1 h2
  cases h1
  cases h2
  rfl
set_option maxRecDepth 20000 in
theorem dq_40 : dq_P 40 := by
  intro r q h1 h2
  cases h1
  cases h2
  rfl
set_option maxRecDepth 20000 in
theorem dq_41 : dq_P 41 := by
  intro r q h1 h2
  cases h1
  cases h2
  rfl
set_option maxRecDepth 20000 in
theorem dq_42 : dq_P 42 := by
  intro r q h1 h2
  cases h1
  cases h2
  rfl
set_option maxRecDepth 20000 in
theorem dq_43 : dq_P 43 := by
  intro r q h1 h2
  cases h1
  cases h2
  rfl
set_option maxRecDepth 20000 in
theorem dq_44 : dq_P 44 := by
  intro r q h1 h2
  cases h1
  cases h2
  rfl
set_option maxRecDepth 20000 in
theorem dq_45 : dq_P 45 := by
  intro r q h1 h2
  cases h1
  cases h2
  rfl
set_option maxRecDepth 20000 in
theorem dq_46 : dq_P 46 := by
  intro r q h1 h2
  cases h1
  cases h2
  rfl
set_option maxRecDepth 20000 in
theorem dq_47 : dq_P 47 := by
  intro r q h1 h2
  cases h1
  cases h2
  rfl
set_option maxRecDepth 20000 in
theorem dq_48 : dq_P 48 := by
  intro r q h1 h2
  cases h1
  cases h2
  rfl
set_option maxRecDepth 20000 in
theorem dq_49 : dq_P 49 := by
  intro r q h1 h2
  cases h1
  cases h2
  rfl
set_option maxRecDepth 20000 in
theorem dq_50 : dq_P 50 := by
  intro r q h1 h2
  cases h1
  cases h2
  rfl
set_option maxRecDepth 20000 in
theorem dq_51 : dq_P 51 := by
  intro r q h1 h2
  cases h1
  cases h2
  rfl
set_option maxRecDepth 20000 in
theorem dq_52 : dq_P 52 := by
  intro r q h1 h2
  cases h1
  cases h2
  rfl
set_option maxRecDepth 20000 in
theorem dq_53 : dq_P 53 := by
  intro r q h1 h2
  cases h1
  cases h2
  rfl
set_option maxRecDepth 20000 in
theorem dq_54 : dq_P 54 := by
  intro r q h1 h2
  cases h1
  cases h2
  rfl
set_option maxRecDepth 20000 in
theorem dq_55 : dq_P 55 := by
  intro r q h1 h2
  cases h1
  cases h2
  rfl
set_option maxRecDepth 20000 in
theorem dq_56 : dq_P 56 := by
  intro r q h1 h2
  cases h1
  cases h2
  rfl
set_option maxRecDepth 20000 in
theorem dq_57 : dq_P 57 := by
  intro r q h1 h2
  cases h1
  cases h2
  rfl
set_option maxRecDepth 20000 in
theorem dq_58 : dq_P 58 := by
  intro r q h1 h2
  cases h1
  cases h2
  rfl
set_option maxRecDepth 20000 in
theorem dq_59 : dq_P 59 := by
  intro r q h1 h2
  cases h1
  cases h2
  rfl
set_option maxRecDepth 20000 in
theorem dq_60 : dq_P 60 := by
  intro r q h1 h2
  cases h1
  cases h2
  rfl
set_option maxRecDepth 20000 in
theorem dq_61 : dq_P 61 := by
  intro r q h1 h2
  cases h1
  cases h2
  rfl
set_option maxRecDepth 20000 in
theorem dq_62 : dq_P 62 := by
  intro r q h1 h2
  cases h1
  cases h2
  rfl
set_option maxRecDepth 20000 in
theorem dq_63 : dq_P 63 := by
  intro r q h1 h2
  cases h1
  cases h2
  rfl
set_option maxRecDepth 20000 in
theorem dq_64 : dq_P 64 := by
  intro r q h1 h2
  cases h1
  cases h2
  rfl
set_option maxRecDepth 20000 in
theorem dq_65 : dq_P 65 := by
  intro r q h1 h2
  cases h1
  cases h2
  rfl
set_option maxRecDepth 20000 in
theorem dq_66 : dq_P 66 := by
  intro r q h1 h2
  cases h1
  cases h2
  rfl
set_option maxRecDepth 20000 in
theorem dq_67 : dq_P 67 := by
  intro r q h1 h2
  cases h1
  cases h2
  rfl
set_option maxRecDepth 20000 in
theorem dq_68 : dq_P 68 := by
  intro r q h1 h2
  cases h1
  cases h2
  rfl
set_option maxRecDepth 20000 in
theorem dq_69 : dq_P 69 := by
  intro r q h1 h2
  cases h1
  cases h2
  rfl
set_option maxRecDepth 20000 in
theorem dq_70 : dq_P 70 := by
  intro r q h1 h2
  cases h1
  cases h2
  rfl
set_option maxRecDepth 20000 in
theorem dq_71 : dq_P 71 := by
  intro r q h1 h2
  cases h1
  cases h2
  rfl
set_option maxRecDepth 20000 in
theorem dq_72 : dq_P 72 := by
  intro r q h1 h2
  cases h1
  cases h2
  rfl
set_option maxRecDepth 20000 in
theorem dq_73 : dq_P 73 := by
  intro r q h1 h2
  cases h1
  cases h2
  rfl
set_option maxRecDepth 20000 in
theorem dq_74 : dq_P 74 := by
  intro r q h1 h2
  cases h1
  cases h2
  rfl
set_option maxRecDepth 20000 in
theorem dq_75 : dq_P 75 := by
  intro r q h1 h2
  cases h1
  cases h2
  rfl
set_option maxRecDepth 20000 in
theorem dq_76 : dq_P 76 := by
  intro r q h1 h2
  cases h1
  cases h2
  rfl
set_option maxRecDepth 20000 in
theorem dq_77 : dq_P 77 := by
  intro r q h1 h2
  cases h1
  cases h2
  rfl
set_option maxRecDepth 20000 in
theorem dq_78 : dq_P 78 := by
  intro r q h1 h2
  cases h1
  cases h2
  rfl
set_option maxRecDepth 20000 in
theorem dq_79 : dq_P 79 := by
  intro r q h1 h2
  cases h1
  cases h2
  rfl
set_option maxRecDepth 20000 in
theorem dq_80 : dq_P 80 := by
  intro r q h1 h2
  cases h1
  cases h2
  rfl
set_option maxRecDepth 20000 in
theorem dq_81 : dq_P 81 := by
  intro r q h1 h2
  cases h1
  cases h2
  rfl
set_option maxRecDepth 20000 in
theorem dq_82 : dq_P 82 := by
  intro r q h1 h2
  cases h1
  cases h2
  rfl
set_option maxRecDepth 20000 in
theorem dq_83 : dq_P 83 := by
  intro r q h1 h2
  cases h1
  cases h2
  rfl
set_option maxRecDepth 20000 in
theorem dq_84 : dq_P 84 := by
  intro r q h1 h2
  cases h1
  cases h2
  rfl
set_option maxRecDepth 20000 in
theorem dq_85 : dq_P 85 := by
  intro r q h1 h2
  cases h1
  cases h2
  rfl
set_option maxRecDepth 20000 in
theorem dq_86 : dq_P 86 := by
  intro r q h1 h2
  cases h1
  cases h2
  rfl
set_option maxRecDepth 20000 in
theorem dq_87 : dq_P 87 := by
  intro r q h1 h2
  cases h1
  cases h2
  rfl
set_option maxRecDepth 20000 in
theorem dq_88 : dq_P 88 := by
  intro r q h1 h2
  cases h1
  cases h2
  rfl
set_option maxRecDepth 20000 in
theorem dq_89 : dq_P 89 := by
  intro r q h1 h2
  cases h1
  cases h2
  rfl
set_option maxRecDepth 20000 in
theorem dq_90 : dq_P 90 := by
  intro r q h1 h2
  cases h1
  cases h2
  rfl
set_option maxRecDepth 20000 in
theorem dq_91 : dq_P 91 := by
  intro r q h1 h2
  cases h1
  cases h2
  rfl
set_option maxRecDepth 20000 in
theorem dq_92 : dq_P 92 := by
  intro r q h1 h2
  cases h1
  cases h2
  rfl
set_option maxRecDepth 20000 in
theorem dq_93 : dq_P 93 := by
  intro r q h1 h2
  cases h1
  cases h2
  rfl
set_option maxRecDepth 20000 in
theorem dq_94 : dq_P 94 := by
  intro r q h1 h2
  cases h1
  cases h2
  rfl
set_option maxRecDepth 20000 in
theorem dq_95 : dq_P 95 := by
  intro r q h1 h2
  cases h1
  cases h2
  rfl
set_option maxRecDepth 20000 in
theorem dq_96 : dq_P 96 := by
  intro r q h1 h2
  cases h1
  cases h2
  rfl
set_option maxRecDepth 20000 in
theorem dq_97 : dq_P 97 := by
  intro r q h1 h2
  cases h1
  cases h2
  rfl
set_option maxRecDepth 20000 in
theorem dq_98 : dq_P 98 := by
  intro r q h1 h2
  cases h1
  cases h2
  rfl
set_option maxRecDepth 20000 in
theorem dq_99 : dq_P 99 := by
  intro r q h1 h2
  cases h1
  cases h2
  rfl
set_option maxRecDepth 20000 in
theorem dq_100 : dq_P 100 := by
  intro r q h1 h2
  cases h1
  cases h2
  rfl
set_option maxRecDepth 20000 in
theorem dq_101 : dq_P 101 := by
  intro r q h1 h2
  cases h1
  cases h2
  rfl
set_option maxRecDepth 20000 in
theorem dq_102 : dq_P 102 := by
  intro r q h1 h2
  cases h1
  cases h2
  rfl
set_option maxRecDepth 20000 in
theorem dq_103 : dq_P 103 := by
  intro r q h1 h2
  cases h1
  cases h2
  rfl
set_option maxRecDepth 20000 in
theorem dq_104 : dq_P 104 := by
  intro r q h1 h2
  cases h1
  cases h2
  rfl
set_option maxRecDepth 20000 in
theorem dq_105 : dq_P 105 := by
  intro r q h1 h2
  cases h1
  cases h2
  rfl
set_option maxRecDepth 20000 in
theorem dq_106 : dq_P 106 := by
  intro r q h1 h2
  cases h1
  cases h2
  rfl
set_option maxRecDepth 20000 in
theorem dq_107 : dq_P 107 := by
  intro r q h1 h2
  cases h1
  cases h2
  rfl
set_option maxRecDepth 20000 in
theorem dq_108 : dq_P 108 := by
  intro r q h1 h2
  cases h1
  cases h2
  rfl
set_option maxRecDepth 20000 in
theorem dq_109 : dq_P 109 := by
  intro r q h1 h2
  cases h1
  cases h2
  rfl
set_option maxRecDepth 20000 in
theorem dq_110 : dq_P 110 := by
  intro r q h1 h2
  cases h1
  cases h2
  rfl
set_option maxRecDepth 20000 in
theorem dq_111 : dq_P 111 := by
  intro r q h1 h2
  cases h1
  cases h2
  rfl
set_option maxRecDepth 20000 in
theorem dq_112 : dq_P 112 := by
  intro r q h1 h2
  cases h1
  cases h2
  rfl
set_option maxRecDepth 20000 in
theorem dq_113 : dq_P 113 := by
  intro r q h1 h2
  cases h1
  cases h2
  rfl
set_option maxRecDepth 20000 in
theorem dq_114 : dq_P 114 := by
  intro r q h1 h2
  cases h1
  cases h2
  rfl
set_option maxRecDepth 20000 in
theorem dq_115 : dq_P 115 := by
  intro r q h1 h2
  cases h1
  cases h2
  rfl
set_option maxRecDepth 20000 in
theorem dq_116 : dq_P 116 := by
  intro r q h1 h2
  cases h1
  cases h2
  rfl
set_option maxRecDepth 20000 in
theorem dq_117 : dq_P 117 := by
  intro r q h1 h2
  cases h1
  cases h2
  rfl
set_option maxRecDepth 20000 in
theorem dq_118 : dq_P 118 := by
  intro r q h1 h2
  cases h1
  cases h2
  rfl
set_option maxRecDepth 20000 in
theorem dq_119 : dq_P 119 := by
  intro r q h1 h2
  cases h1
  cases h2
  rfl
set_option maxRecDepth 20000 in
theorem dq_120 : dq_P 120 := by
  intro r q h1 h2
  cases h1
  cases h2
  rfl
set_option maxRecDepth 20000 in
theorem dq_121 : dq_P 121 := by
  intro r q h1 h2
  cases h1
  cases h2
  rfl
set_option maxRecDepth 20000 in
theorem dq_122 : dq_P 122 := by
  intro r q h1 h2
  cases h1
  cases h2
  rfl
set_option maxRecDepth 20000 in
theorem dq_123 : dq_P 123 := by
  intro r q h1 h2
  cases h1
  cases h2
  rfl
set_option maxRecDepth 20000 in
theorem dq_124 : dq_P 124 := by
  intro r q h1 h2
  cases h1
  cases h2
  rfl
set_option maxRecDepth 20000 in
theorem dq_125 : dq_P 125 := by
  intro r q h1 h2
  cases h1
  cases h2
  rfl
set_option maxRecDepth 20000 in
theorem dq_126 : dq_P 126 := by
  intro r q h1 h2
  cases h1
  cases h2
  rfl
set_option maxRecDepth 20000 in
theorem dq_127 : dq_P 127 := by
  intro r q h1 h2
  cases h1
  cases h2
  rfl
set_option maxRecDepth 20000 in
theorem dq_128 : dq_P 128 := by
  intro r q h1 h2
  cases h1
  cases h2
  rfl
set_option maxRecDepth 20000 in
theorem dq_129 : dq_P 129 := by
  intro r q h1 h2
  cases h1
  cases h2
  rfl
set_option maxRecDepth 20000 in
theorem dq_130 : dq_P 130 := by
  intro r q h1 h2
  cases h1
  cases h2
  rfl
set_option maxRecDepth 20000 in
theorem dq_131 : dq_P 131 := by
  intro r q h1 h2
  cases h1
  cases h2
  rfl
set_option maxRecDepth 20000 in
theorem dq_132 : dq_P 132 := by
  intro r q h1 h2
  cases h1
  cases h2
  rfl
set_option maxRecDepth 20000 in
theorem dq_133 : dq_P 133 := by
  intro r q h1 h2
  cases h1
  cases h2
  rfl
set_option maxRecDepth 20000 in
theorem dq_134 : dq_P 134 := by
  intro r q h1 h2
  cases h1
  cases h2
  rfl
set_option maxRecDepth 20000 in
theorem dq_135 : dq_P 135 := by
  intro r q h1 h2
  cases h1
  cases h2
  rfl
set_option maxRecDepth 20000 in
theorem dq_136 : dq_P 136 := by
  intro r q h1 h2
  cases h1
  cases h2
  rfl
set_option maxRecDepth 20000 in
theorem dq_137 : dq_P 137 := by
  intro r q h1 h2
  cases h1
  cases h2
  rfl
set_option maxRecDepth 20000 in
theorem dq_138 : dq_P 138 := by
  intro r q h1 h2
  cases h1
  cases h2
  rfl
theorem dq_all : ∀ mi, mi < 139 → dq_P mi := (lt_s (lt_s (lt_s (lt_s (lt_s (lt_s (lt_s (lt_s (lt_s (lt_s (lt_s (lt_s (lt_s (lt_s (lt_s (lt_s (lt_s (lt_s (lt_s (lt_s (lt_s (lt_s (lt_s (lt_s (lt_s (lt_s (lt_s (lt_s (lt_s (lt_s (lt_s (lt_s (lt_s (lt_s (lt_s (lt_s (lt_s (lt_s (lt_s (lt_s (lt_s (lt_s (lt_s (lt_s (lt_s (lt_s (lt_s (lt_s (lt_s (lt_s (lt_s (lt_s (lt_s (lt_s (lt_s (lt_s (lt_s (lt_s (lt_s (lt_s (lt_s (lt_s (lt_s (lt_s (lt_s (lt_s (lt_s (lt_s (lt_s (lt_s (lt_s (lt_s (lt_s (lt_s (lt_s (lt_s (lt_s (lt_s (lt_s (lt_s (lt_s (lt_s (lt_s (lt_s (lt_s (lt_s (lt_s (lt_s (lt_s (lt_s (lt_s (lt_s (lt_s (lt_s (lt_s (lt_s (lt_s (lt_s (lt_s (lt_s (lt_s (lt_s (lt_s (lt_s (lt_s (lt_s (lt_s (lt_s (lt_s (lt_s (lt_s (lt_s (lt_s (lt_s (lt_s (lt_s (lt_s (lt_s (lt_s (lt_s (lt_s (lt_s (lt_s (lt_s (lt_s (lt_s (lt_s (lt_s (lt_s (lt_s (lt_s (lt_s (lt_s (lt_s (lt_s (lt_s (lt_s (lt_s (lt_s (lt_0 (p := dq_P)) dq_0) dq_1) dq_2) dq_3) dq_4) dq_5) dq_6) dq_7) dq_8) dq_9) dq_10) dq_11) dq_12) dq_13) dq_14) dq_15) dq_16) dq_17) dq_18) dq_19) dq_20) dq_21) dq_22) dq_23) dq_24) dq_25) dq_26) dq_27) dq_28) dq_29) dq_30) dq_31) dq_32) dq_33) dq_34) dq_35) dq_36) dq_37) dq_38) dq_39) dq_40) dq_41) dq_42) dq_43) dq_44) dq_45) dq_46) dq_47) dq_48) dq_49) dq_50) dq_51) dq_52) dq_53) dq_54) dq_55) dq_56) dq_57) dq_58) dq_59) dq_60) dq_61) dq_62) dq_63) dq_64) dq_65) dq_66) dq_67) dq_68) dq_69) dq_70) dq_71) dq_72) dq_73) dq_74) dq_75) dq_76) dq_77) dq_78) dq_79) dq_80) dq_81) dq_82) dq_83) dq_84) dq_85) dq_86) dq_87) dq_88) dq_89) dq_90) dq_91) dq_92) dq_93) dq_94) dq_95) dq_96) dq_97) dq_98) dq_99) dq_100) dq_101) dq_102) dq_103) dq_104) dq_105) dq_106) dq_107) dq_108) dq_109) dq_110) dq_111) dq_112) dq_113) dq_114) dq_115) dq_116) dq_117) dq_118) dq_119) dq_120) dq_121) dq_122) dq_123) dq_124) dq_125) dq_126) dq_127) dq_128) dq_129) dq_130) dq_131) dq_132) dq_133) dq_134) dq_135) dq_136) dq_137) dq_138)
