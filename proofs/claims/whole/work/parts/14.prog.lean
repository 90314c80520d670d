def mPl : List mM := [(kX0_init, 2, []), (kX0_restart, 1, []), (kX0_byteLength, 1, []), (kX0_put, 6, []), (kX0_putBit, 4, []), (kX0_finish, 1, []), (kX1_fiveTo, 1, []), (kX1_nearest, 14, []), (kX1_scale, 7, []), (kX1_nearestWhole, 11, []), (kX1_shiftedRight, 5, []), (kX2_init, 1, []), (kX2_read, 6, []), (kX2_readPadding, 5, []), (kX2_readEnd, 3, []), (kX2_readBlock, 5, []), (kX2_readPlain, 5, []), (kX2_readRests, 9, []), (kX2_readRest, 3, []), (kX2_readNewWindow, 7, []), (kX2_readDecimals, 15, []), (kX2_readHeads, 5, []), (kX2_readFractions, 7, []), (kX3_init, 1, []), (kX3_planStride, 8, []), (kX3_planDecimal, 5, []), (kX3_fold, 14, []), (kX3_write, 7, []), (kX3_putPlain, 6, []), (kX3_putRests, 8, []), (kX3_putRest, 7, []), (kX3_putDecimals, 4, []), (kX3_putHeads, 10, []), (kX3_putFractions, 9, []), (kX4_init, 1, []), (kX4_begin, 3, []), (kX4_packBlock, 8, []), (kX4_chosenWay, 2, []), (kX4_bitsBy, 4, []), (kX5_init, 1, []), (kX5_empty, 1, []), (kX5_append, 5, []), (kX5_nextPlace, 3, []), (kX5_valueOrZero, 2, []), (kX5_guess, 4, []), (kX6_init, 1, []), (kX6_append, 2, []), (kX6_xorAt, 3, []), (kX6_rewind, 1, []), (kX6_isSound, 1, []), (kX6_fail, 3, []), (kX6_take, 6, []), (kX7_init, 1, []), (kX7_shut, 1, []), (kX7_moveTo, 3, []), (kX7_isThere, 1, []), (kX7_behind, 1, []), (kX7_covers, 3, []), (kX8_init, 1, []), (kX8_add, 3, []), (kX8_decimal, 3, []), (kX8_count, 1, []), (kX8_clear, 2, []), (kX8_value, 2, []), (kX8_turned, 2, []), (kX8_rank, 6, []), (kX8_foretold, 4, []), (kX8_power, 5, []), (kX8_scaled, 5, []), (kX8_pack, 3, []), (kX8_blocks, 1, []), (kX8_way, 2, []), (kX8_bits, 3, []), (kX8_size, 1, []), (kX8_out, 2, []), (kX8_feed, 5, []), (kX8_cut, 3, []), (kX8_turn, 2, []), (kX8_change, 3, []), (kX8_open, 2, []), (kX8_place, 1, []), (kX8_requireRoom, 1, []), (kX8_requirePower, 1, []), (kX8_requireBelow, 2, []), (kX8_flip, 2, []), (kX8_byteAt, 2, []), (kX8_checkOf, 4, []), (kX9_init, 1, []), (kX9_thrown, 1, []), (kX9_refuse, 2, []), (kX9_add, 3, []), (kX9_decimal, 3, []), (kX9_count, 1, []), (kX9_clear, 2, []), (kX9_isValue, 2, []), (kX9_value, 2, []), (kX9_turn, 2, []), (kX9_turned, 2, []), (kX9_rank, 4, []), (kX9_ten, 4, []), (kX9_nearest, 10, []), (kX9_signedNearest, 3, []), (kX9_scale, 11, []), (kX9_power, 3, []), (kX9_scaled, 5, []), (kX9_begin, 2, []), (kX9_before, 3, []), (kX9_pass, 7, []), (kX9_foretells, 5, []), (kX9_foretold, 5, []), (kX9_put, 6, []), (kX9_ahead, 3, []), (kX9_behind, 3, []), (kX9_restOf, 4, []), (kX9_rests, 15, []), (kX9_bestStride, 7, []), (kX9_code, 2, []), (kX9_decimals, 6, []), (kX9_tens, 12, []), (kX9_parts, 7, []), (kX9_plain, 4, []), (kX9_byWay, 4, []), (kX9_pack, 7, []), (kX9_blocks, 1, []), (kX9_way, 2, []), (kX9_bits, 3, []), (kX9_size, 1, []), (kX9_out, 2, []), (kX9_feed, 5, []), (kX9_cut, 3, []), (kX9_turn_, 2, []), (kX9_change, 3, []), (kX9_wrong, 3, []), (kX9_next, 5, []), (kX9_take, 3, []), (kX9_openRests, 15, []), (kX9_openTens, 10, []), (kX9_openParts, 7, []), (kX9_openBlock, 4, []), (kX9_openEnd, 4, []), (kX9_open, 4, []), (kX9_place, 1, []), (kJ6_numberOfLeadingZeros_0f7a4, 2, []), (kJ6_numberOfTrailingZeros_0f7a4, 2, []), (kJ13_numberOfLeadingZeros_95d88, 3, []), (kJ13_numberOfTrailingZeros_95d88, 3, []), (kJ7_fill_d0a16, 5, []), (kL_add, 5, [(0, 9, 0, 14, 4)]), (kL_decimal, 5, [(0, 10, 1, 15, 4), (0, 10, 0, 19, 4)]), (kL_value, 4, [(0, 8, 2, 12, 3)]), (kL_turned, 4, [(0, 8, 2, 12, 3)]), (kL_rank, 4, [(0, 9, 2, 13, 3)]), (kL_foretold, 6, [(0, 11, 2, 16, 5), (0, 11, 1, 20, 5)]), (kL_power, 4, [(0, 9, 2, 13, 3)]), (kL_scaled, 5, [(0, 9, 2, 14, 4), (0, 9, 1, 18, 4), (0, 9, 3, 22, 4)]), (kL_pack, 4, [(0, 9, 1, 13, 3)]), (kL_way, 4, [(0, 9, 2, 13, 3)]), (kL_bits, 5, [(0, 10, 2, 15, 4), (0, 10, 1, 19, 4)]), (kL_out, 4, [(0, 9, 2, 13, 3)]), (kL_feed, 6, [(0, 11, 1, 16, 5), (0, 11, 0, 20, 5)]), (kL_cut, 4, [(0, 9, 1, 13, 3)]), (kL_change, 5, [(0, 10, 2, 15, 4), (0, 10, 1, 19, 4)]), (kL_law, 8, [])]
def mP (y : Nat) : mM := (mAt mPl y).getD (mRow [], 0, [])
theorem pX0_init : mP 0 = (kX0_init, 2, []) := rfl
theorem pX0_restart : mP 1 = (kX0_restart, 1, []) := rfl
theorem pX0_byteLength : mP 2 = (kX0_byteLength, 1, []) := rfl
theorem pX0_put : mP 3 = (kX0_put, 6, []) := rfl
theorem pX0_putBit : mP 4 = (kX0_putBit, 4, []) := rfl
theorem pX0_finish : mP 5 = (kX0_finish, 1, []) := rfl
theorem pX1_fiveTo : mP 6 = (kX1_fiveTo, 1, []) := rfl
theorem pX1_nearest : mP 7 = (kX1_nearest, 14, []) := rfl
theorem pX1_scale : mP 8 = (kX1_scale, 7, []) := rfl
theorem pX1_nearestWhole : mP 9 = (kX1_nearestWhole, 11, []) := rfl
theorem pX1_shiftedRight : mP 10 = (kX1_shiftedRight, 5, []) := rfl
theorem pX2_init : mP 11 = (kX2_init, 1, []) := rfl
theorem pX2_read : mP 12 = (kX2_read, 6, []) := rfl
theorem pX2_readPadding : mP 13 = (kX2_readPadding, 5, []) := rfl
theorem pX2_readEnd : mP 14 = (kX2_readEnd, 3, []) := rfl
theorem pX2_readBlock : mP 15 = (kX2_readBlock, 5, []) := rfl
theorem pX2_readPlain : mP 16 = (kX2_readPlain, 5, []) := rfl
theorem pX2_readRests : mP 17 = (kX2_readRests, 9, []) := rfl
theorem pX2_readRest : mP 18 = (kX2_readRest, 3, []) := rfl
theorem pX2_readNewWindow : mP 19 = (kX2_readNewWindow, 7, []) := rfl
theorem pX2_readDecimals : mP 20 = (kX2_readDecimals, 15, []) := rfl
theorem pX2_readHeads : mP 21 = (kX2_readHeads, 5, []) := rfl
theorem pX2_readFractions : mP 22 = (kX2_readFractions, 7, []) := rfl
theorem pX3_init : mP 23 = (kX3_init, 1, []) := rfl
theorem pX3_planStride : mP 24 = (kX3_planStride, 8, []) := rfl
theorem pX3_planDecimal : mP 25 = (kX3_planDecimal, 5, []) := rfl
theorem pX3_fold : mP 26 = (kX3_fold, 14, []) := rfl
theorem pX3_write : mP 27 = (kX3_write, 7, []) := rfl
theorem pX3_putPlain : mP 28 = (kX3_putPlain, 6, []) := rfl
theorem pX3_putRests : mP 29 = (kX3_putRests, 8, []) := rfl
theorem pX3_putRest : mP 30 = (kX3_putRest, 7, []) := rfl
theorem pX3_putDecimals : mP 31 = (kX3_putDecimals, 4, []) := rfl
theorem pX3_putHeads : mP 32 = (kX3_putHeads, 10, []) := rfl
theorem pX3_putFractions : mP 33 = (kX3_putFractions, 9, []) := rfl
theorem pX4_init : mP 34 = (kX4_init, 1, []) := rfl
theorem pX4_begin : mP 35 = (kX4_begin, 3, []) := rfl
theorem pX4_packBlock : mP 36 = (kX4_packBlock, 8, []) := rfl
theorem pX4_chosenWay : mP 37 = (kX4_chosenWay, 2, []) := rfl
theorem pX4_bitsBy : mP 38 = (kX4_bitsBy, 4, []) := rfl
theorem pX5_init : mP 39 = (kX5_init, 1, []) := rfl
theorem pX5_empty : mP 40 = (kX5_empty, 1, []) := rfl
theorem pX5_append : mP 41 = (kX5_append, 5, []) := rfl
theorem pX5_nextPlace : mP 42 = (kX5_nextPlace, 3, []) := rfl
theorem pX5_valueOrZero : mP 43 = (kX5_valueOrZero, 2, []) := rfl
theorem pX5_guess : mP 44 = (kX5_guess, 4, []) := rfl
theorem pX6_init : mP 45 = (kX6_init, 1, []) := rfl
theorem pX6_append : mP 46 = (kX6_append, 2, []) := rfl
theorem pX6_xorAt : mP 47 = (kX6_xorAt, 3, []) := rfl
theorem pX6_rewind : mP 48 = (kX6_rewind, 1, []) := rfl
theorem pX6_isSound : mP 49 = (kX6_isSound, 1, []) := rfl
theorem pX6_fail : mP 50 = (kX6_fail, 3, []) := rfl
theorem pX6_take : mP 51 = (kX6_take, 6, []) := rfl
theorem pX7_init : mP 52 = (kX7_init, 1, []) := rfl
theorem pX7_shut : mP 53 = (kX7_shut, 1, []) := rfl
theorem pX7_moveTo : mP 54 = (kX7_moveTo, 3, []) := rfl
theorem pX7_isThere : mP 55 = (kX7_isThere, 1, []) := rfl
theorem pX7_behind : mP 56 = (kX7_behind, 1, []) := rfl
theorem pX7_covers : mP 57 = (kX7_covers, 3, []) := rfl
theorem pX8_init : mP 58 = (kX8_init, 1, []) := rfl
theorem pX8_add : mP 59 = (kX8_add, 3, []) := rfl
theorem pX8_decimal : mP 60 = (kX8_decimal, 3, []) := rfl
theorem pX8_count : mP 61 = (kX8_count, 1, []) := rfl
theorem pX8_clear : mP 62 = (kX8_clear, 2, []) := rfl
theorem pX8_value : mP 63 = (kX8_value, 2, []) := rfl
theorem pX8_turned : mP 64 = (kX8_turned, 2, []) := rfl
theorem pX8_rank : mP 65 = (kX8_rank, 6, []) := rfl
theorem pX8_foretold : mP 66 = (kX8_foretold, 4, []) := rfl
theorem pX8_power : mP 67 = (kX8_power, 5, []) := rfl
theorem pX8_scaled : mP 68 = (kX8_scaled, 5, []) := rfl
theorem pX8_pack : mP 69 = (kX8_pack, 3, []) := rfl
theorem pX8_blocks : mP 70 = (kX8_blocks, 1, []) := rfl
theorem pX8_way : mP 71 = (kX8_way, 2, []) := rfl
theorem pX8_bits : mP 72 = (kX8_bits, 3, []) := rfl
theorem pX8_size : mP 73 = (kX8_size, 1, []) := rfl
theorem pX8_out : mP 74 = (kX8_out, 2, []) := rfl
theorem pX8_feed : mP 75 = (kX8_feed, 5, []) := rfl
theorem pX8_cut : mP 76 = (kX8_cut, 3, []) := rfl
theorem pX8_turn : mP 77 = (kX8_turn, 2, []) := rfl
theorem pX8_change : mP 78 = (kX8_change, 3, []) := rfl
theorem pX8_open : mP 79 = (kX8_open, 2, []) := rfl
theorem pX8_place : mP 80 = (kX8_place, 1, []) := rfl
theorem pX8_requireRoom : mP 81 = (kX8_requireRoom, 1, []) := rfl
theorem pX8_requirePower : mP 82 = (kX8_requirePower, 1, []) := rfl
theorem pX8_requireBelow : mP 83 = (kX8_requireBelow, 2, []) := rfl
theorem pX8_flip : mP 84 = (kX8_flip, 2, []) := rfl
theorem pX8_byteAt : mP 85 = (kX8_byteAt, 2, []) := rfl
theorem pX8_checkOf : mP 86 = (kX8_checkOf, 4, []) := rfl
theorem pX9_init : mP 87 = (kX9_init, 1, []) := rfl
theorem pX9_thrown : mP 88 = (kX9_thrown, 1, []) := rfl
theorem pX9_refuse : mP 89 = (kX9_refuse, 2, []) := rfl
theorem pX9_add : mP 90 = (kX9_add, 3, []) := rfl
theorem pX9_decimal : mP 91 = (kX9_decimal, 3, []) := rfl
theorem pX9_count : mP 92 = (kX9_count, 1, []) := rfl
theorem pX9_clear : mP 93 = (kX9_clear, 2, []) := rfl
theorem pX9_isValue : mP 94 = (kX9_isValue, 2, []) := rfl
theorem pX9_value : mP 95 = (kX9_value, 2, []) := rfl
theorem pX9_turn : mP 96 = (kX9_turn, 2, []) := rfl
theorem pX9_turned : mP 97 = (kX9_turned, 2, []) := rfl
theorem pX9_rank : mP 98 = (kX9_rank, 4, []) := rfl
theorem pX9_ten : mP 99 = (kX9_ten, 4, []) := rfl
theorem pX9_nearest : mP 100 = (kX9_nearest, 10, []) := rfl
theorem pX9_signedNearest : mP 101 = (kX9_signedNearest, 3, []) := rfl
theorem pX9_scale : mP 102 = (kX9_scale, 11, []) := rfl
theorem pX9_power : mP 103 = (kX9_power, 3, []) := rfl
theorem pX9_scaled : mP 104 = (kX9_scaled, 5, []) := rfl
theorem pX9_begin : mP 105 = (kX9_begin, 2, []) := rfl
theorem pX9_before : mP 106 = (kX9_before, 3, []) := rfl
theorem pX9_pass : mP 107 = (kX9_pass, 7, []) := rfl
theorem pX9_foretells : mP 108 = (kX9_foretells, 5, []) := rfl
theorem pX9_foretold : mP 109 = (kX9_foretold, 5, []) := rfl
theorem pX9_put : mP 110 = (kX9_put, 6, []) := rfl
theorem pX9_ahead : mP 111 = (kX9_ahead, 3, []) := rfl
theorem pX9_behind : mP 112 = (kX9_behind, 3, []) := rfl
theorem pX9_restOf : mP 113 = (kX9_restOf, 4, []) := rfl
theorem pX9_rests : mP 114 = (kX9_rests, 15, []) := rfl
theorem pX9_bestStride : mP 115 = (kX9_bestStride, 7, []) := rfl
theorem pX9_code : mP 116 = (kX9_code, 2, []) := rfl
theorem pX9_decimals : mP 117 = (kX9_decimals, 6, []) := rfl
theorem pX9_tens : mP 118 = (kX9_tens, 12, []) := rfl
theorem pX9_parts : mP 119 = (kX9_parts, 7, []) := rfl
theorem pX9_plain : mP 120 = (kX9_plain, 4, []) := rfl
theorem pX9_byWay : mP 121 = (kX9_byWay, 4, []) := rfl
theorem pX9_pack : mP 122 = (kX9_pack, 7, []) := rfl
theorem pX9_blocks : mP 123 = (kX9_blocks, 1, []) := rfl
theorem pX9_way : mP 124 = (kX9_way, 2, []) := rfl
theorem pX9_bits : mP 125 = (kX9_bits, 3, []) := rfl
theorem pX9_size : mP 126 = (kX9_size, 1, []) := rfl
theorem pX9_out : mP 127 = (kX9_out, 2, []) := rfl
theorem pX9_feed : mP 128 = (kX9_feed, 5, []) := rfl
theorem pX9_cut : mP 129 = (kX9_cut, 3, []) := rfl
theorem pX9_turn_ : mP 130 = (kX9_turn_, 2, []) := rfl
theorem pX9_change : mP 131 = (kX9_change, 3, []) := rfl
theorem pX9_wrong : mP 132 = (kX9_wrong, 3, []) := rfl
theorem pX9_next : mP 133 = (kX9_next, 5, []) := rfl
theorem pX9_take : mP 134 = (kX9_take, 3, []) := rfl
theorem pX9_openRests : mP 135 = (kX9_openRests, 15, []) := rfl
theorem pX9_openTens : mP 136 = (kX9_openTens, 10, []) := rfl
theorem pX9_openParts : mP 137 = (kX9_openParts, 7, []) := rfl
theorem pX9_openBlock : mP 138 = (kX9_openBlock, 4, []) := rfl
theorem pX9_openEnd : mP 139 = (kX9_openEnd, 4, []) := rfl
theorem pX9_open : mP 140 = (kX9_open, 4, []) := rfl
theorem pX9_place : mP 141 = (kX9_place, 1, []) := rfl
theorem pJ6_numberOfLeadingZeros_0f7a4 : mP 142 = (kJ6_numberOfLeadingZeros_0f7a4, 2, []) := rfl
theorem pJ6_numberOfTrailingZeros_0f7a4 : mP 143 = (kJ6_numberOfTrailingZeros_0f7a4, 2, []) := rfl
theorem pJ13_numberOfLeadingZeros_95d88 : mP 144 = (kJ13_numberOfLeadingZeros_95d88, 3, []) := rfl
theorem pJ13_numberOfTrailingZeros_95d88 : mP 145 = (kJ13_numberOfTrailingZeros_95d88, 3, []) := rfl
theorem pJ7_fill_d0a16 : mP 146 = (kJ7_fill_d0a16, 5, []) := rfl
theorem pL_add : mP 147 = (kL_add, 5, [(0, 9, 0, 14, 4)]) := rfl
theorem pL_decimal : mP 148 = (kL_decimal, 5, [(0, 10, 1, 15, 4), (0, 10, 0, 19, 4)]) := rfl
theorem pL_value : mP 149 = (kL_value, 4, [(0, 8, 2, 12, 3)]) := rfl
theorem pL_turned : mP 150 = (kL_turned, 4, [(0, 8, 2, 12, 3)]) := rfl
theorem pL_rank : mP 151 = (kL_rank, 4, [(0, 9, 2, 13, 3)]) := rfl
theorem pL_foretold : mP 152 = (kL_foretold, 6, [(0, 11, 2, 16, 5), (0, 11, 1, 20, 5)]) := rfl
theorem pL_power : mP 153 = (kL_power, 4, [(0, 9, 2, 13, 3)]) := rfl
theorem pL_scaled : mP 154 = (kL_scaled, 5, [(0, 9, 2, 14, 4), (0, 9, 1, 18, 4), (0, 9, 3, 22, 4)]) := rfl
theorem pL_pack : mP 155 = (kL_pack, 4, [(0, 9, 1, 13, 3)]) := rfl
theorem pL_way : mP 156 = (kL_way, 4, [(0, 9, 2, 13, 3)]) := rfl
theorem pL_bits : mP 157 = (kL_bits, 5, [(0, 10, 2, 15, 4), (0, 10, 1, 19, 4)]) := rfl
theorem pL_out : mP 158 = (kL_out, 4, [(0, 9, 2, 13, 3)]) := rfl
theorem pL_feed : mP 159 = (kL_feed, 6, [(0, 11, 1, 16, 5), (0, 11, 0, 20, 5)]) := rfl
theorem pL_cut : mP 160 = (kL_cut, 4, [(0, 9, 1, 13, 3)]) := rfl
theorem pL_change : mP 161 = (kL_change, 5, [(0, 10, 2, 15, 4), (0, 10, 1, 19, 4)]) := rfl
theorem pL_law : mP 162 = (kL_law, 8, []) := rfl
