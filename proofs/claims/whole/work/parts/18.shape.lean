def NN : Nat := 231
def SHL : List Shp := [.inr (.inr (10, [some (some 1), some (some 8), some (some 15), some (some 157), some (some 159), some (some 165), some (some 171), some (some 179), some (some 194), some (some 197), some (some 208), none])),
  .inr (.inr (1, [none, none, some (some 2), some (some 3), some (some 4), none, some (some 5), some (some 6), some (some 7)])),
  .inl (false, 81),
  .inl (false, 81),
  .inl (false, 81),
  .inl (false, 6),
  .inl (false, 6),
  .inl (false, 6),
  .inr (.inr (1, [none, none, some (some 9), some (some 10), some (some 11), none, some (some 12), some (some 13), some (some 14)])),
  .inl (false, 81),
  .inl (false, 81),
  .inl (false, 81),
  .inl (false, 6),
  .inl (false, 6),
  .inl (false, 6),
  .inr (.inr (2, [some (some 16), none, none])),
  .inr (.inl (20, fun i => some (17 + 7 * i))),
  .inr (.inr (1, [none, none, some (some 18), some (some 19), some (some 20), none, some (some 21), some (some 22), some (some 23)])),
  .inl (false, 81),
  .inl (false, 81),
  .inl (false, 81),
  .inl (false, 6),
  .inl (false, 6),
  .inl (false, 6),
  .inr (.inr (1, [none, none, some (some 25), some (some 26), some (some 27), none, some (some 28), some (some 29), some (some 30)])),
  .inl (false, 81),
  .inl (false, 81),
  .inl (false, 81),
  .inl (false, 6),
  .inl (false, 6),
  .inl (false, 6),
  .inr (.inr (1, [none, none, some (some 32), some (some 33), some (some 34), none, some (some 35), some (some 36), some (some 37)])),
  .inl (false, 81),
  .inl (false, 81),
  .inl (false, 81),
  .inl (false, 6),
  .inl (false, 6),
  .inl (false, 6),
  .inr (.inr (1, [none, none, some (some 39), some (some 40), some (some 41), none, some (some 42), some (some 43), some (some 44)])),
  .inl (false, 81),
  .inl (false, 81),
  .inl (false, 81),
  .inl (false, 6),
  .inl (false, 6),
  .inl (false, 6),
  .inr (.inr (1, [none, none, some (some 46), some (some 47), some (some 48), none, some (some 49), some (some 50), some (some 51)])),
  .inl (false, 81),
  .inl (false, 81),
  .inl (false, 81),
  .inl (false, 6),
  .inl (false, 6),
  .inl (false, 6),
  .inr (.inr (1, [none, none, some (some 53), some (some 54), some (some 55), none, some (some 56), some (some 57), some (some 58)])),
  .inl (false, 81),
  .inl (false, 81),
  .inl (false, 81),
  .inl (false, 6),
  .inl (false, 6),
  .inl (false, 6),
  .inr (.inr (1, [none, none, some (some 60), some (some 61), some (some 62), none, some (some 63), some (some 64), some (some 65)])),
  .inl (false, 81),
  .inl (false, 81),
  .inl (false, 81),
  .inl (false, 6),
  .inl (false, 6),
  .inl (false, 6),
  .inr (.inr (1, [none, none, some (some 67), some (some 68), some (some 69), none, some (some 70), some (some 71), some (some 72)])),
  .inl (false, 81),
  .inl (false, 81),
  .inl (false, 81),
  .inl (false, 6),
  .inl (false, 6),
  .inl (false, 6),
  .inr (.inr (1, [none, none, some (some 74), some (some 75), some (some 76), none, some (some 77), some (some 78), some (some 79)])),
  .inl (false, 81),
  .inl (false, 81),
  .inl (false, 81),
  .inl (false, 6),
  .inl (false, 6),
  .inl (false, 6),
  .inr (.inr (1, [none, none, some (some 81), some (some 82), some (some 83), none, some (some 84), some (some 85), some (some 86)])),
  .inl (false, 81),
  .inl (false, 81),
  .inl (false, 81),
  .inl (false, 6),
  .inl (false, 6),
  .inl (false, 6),
  .inr (.inr (1, [none, none, some (some 88), some (some 89), some (some 90), none, some (some 91), some (some 92), some (some 93)])),
  .inl (false, 81),
  .inl (false, 81),
  .inl (false, 81),
  .inl (false, 6),
  .inl (false, 6),
  .inl (false, 6),
  .inr (.inr (1, [none, none, some (some 95), some (some 96), some (some 97), none, some (some 98), some (some 99), some (some 100)])),
  .inl (false, 81),
  .inl (false, 81),
  .inl (false, 81),
  .inl (false, 6),
  .inl (false, 6),
  .inl (false, 6),
  .inr (.inr (1, [none, none, some (some 102), some (some 103), some (some 104), none, some (some 105), some (some 106), some (some 107)])),
  .inl (false, 81),
  .inl (false, 81),
  .inl (false, 81),
  .inl (false, 6),
  .inl (false, 6),
  .inl (false, 6),
  .inr (.inr (1, [none, none, some (some 109), some (some 110), some (some 111), none, some (some 112), some (some 113), some (some 114)])),
  .inl (false, 81),
  .inl (false, 81),
  .inl (false, 81),
  .inl (false, 6),
  .inl (false, 6),
  .inl (false, 6),
  .inr (.inr (1, [none, none, some (some 116), some (some 117), some (some 118), none, some (some 119), some (some 120), some (some 121)])),
  .inl (false, 81),
  .inl (false, 81),
  .inl (false, 81),
  .inl (false, 6),
  .inl (false, 6),
  .inl (false, 6),
  .inr (.inr (1, [none, none, some (some 123), some (some 124), some (some 125), none, some (some 126), some (some 127), some (some 128)])),
  .inl (false, 81),
  .inl (false, 81),
  .inl (false, 81),
  .inl (false, 6),
  .inl (false, 6),
  .inl (false, 6),
  .inr (.inr (1, [none, none, some (some 130), some (some 131), some (some 132), none, some (some 133), some (some 134), some (some 135)])),
  .inl (false, 81),
  .inl (false, 81),
  .inl (false, 81),
  .inl (false, 6),
  .inl (false, 6),
  .inl (false, 6),
  .inr (.inr (1, [none, none, some (some 137), some (some 138), some (some 139), none, some (some 140), some (some 141), some (some 142)])),
  .inl (false, 81),
  .inl (false, 81),
  .inl (false, 81),
  .inl (false, 6),
  .inl (false, 6),
  .inl (false, 6),
  .inr (.inr (1, [none, none, some (some 144), some (some 145), some (some 146), none, some (some 147), some (some 148), some (some 149)])),
  .inl (false, 81),
  .inl (false, 81),
  .inl (false, 81),
  .inl (false, 6),
  .inl (false, 6),
  .inl (false, 6),
  .inr (.inr (1, [none, none, some (some 151), some (some 152), some (some 153), none, some (some 154), some (some 155), some (some 156)])),
  .inl (false, 81),
  .inl (false, 81),
  .inl (false, 81),
  .inl (false, 6),
  .inl (false, 6),
  .inl (false, 6),
  .inr (.inr (3, [some (some 158), none, none])),
  .inl (false, 324),
  .inr (.inr (6, [some (some 160), none, some (some 161), some (some 162), some (some 163), none, none, some (some 164)])),
  .inl (false, 324),
  .inl (false, 324),
  .inl (false, 81),
  .inl (false, 81),
  .inl (false, 81),
  .inr (.inr (4, [some (some 166), some (some 167), none, some (some 168), some (some 169)])),
  .inl (false, 324),
  .inl (false, 324),
  .inl (false, 324),
  .inr (.inr (3, [some (some 170), none, none])),
  .inl (false, 324),
  .inr (.inr (0, [some (some 172), none, none, some (some 173)])),
  .inl (false, 81),
  .inr (.inr (6, [some (some 174), none, some (some 175), some (some 176), some (some 177), none, none, some (some 178)])),
  .inl (false, 324),
  .inl (false, 324),
  .inl (false, 81),
  .inl (false, 81),
  .inl (false, 81),
  .inr (.inr (7, [some (some 180), some (some 187), some (some 193), none, none, none, none])),
  .inr (.inr (1, [none, none, some (some 181), some (some 182), some (some 183), none, some (some 184), some (some 185), some (some 186)])),
  .inl (false, 81),
  .inl (false, 81),
  .inl (false, 81),
  .inl (false, 6),
  .inl (false, 6),
  .inl (false, 6),
  .inr (.inr (6, [some (some 188), none, some (some 189), some (some 190), some (some 191), none, none, some (some 192)])),
  .inl (false, 324),
  .inl (false, 324),
  .inl (false, 81),
  .inl (false, 81),
  .inl (false, 81),
  .inl (false, 10),
  .inr (.inr (9, [some (some 195), none, some (some 196)])),
  .inl (false, 81),
  .inl (false, 81),
  .inr (.inr (8, [some (some 198), some (some 201), some (some 207)])),
  .inr (.inr (9, [some (some 199), none, some (some 200)])),
  .inl (false, 81),
  .inl (false, 81),
  .inr (.inr (6, [some (some 202), none, some (some 203), some (some 204), some (some 205), none, none, some (some 206)])),
  .inl (false, 324),
  .inl (false, 324),
  .inl (false, 81),
  .inl (false, 81),
  .inl (false, 81),
  .inl (false, 81),
  .inr (.inr (5, [some (some 209), some (some 210), some (some 211)])),
  .inl (false, 4),
  .inl (false, 4),
  .inl (false, 120),
  .inr (.inr (11, [some (some 213), some (some 214), none, some (some 215), some (some 216), some (some 217), none, none, some (some 218), none, some (some 219), some (some 220), some (some 221), some (some 222), none, some (some 223), some (some 224), some (some 225), none, some (some 226), some (some 227), some (some 228), some (some 229), some (some 230)])),
  .inl (false, 265),
  .inl (false, 5300),
  .inl (false, 4),
  .inl (false, 4),
  .inl (false, 120),
  .inl (false, 324),
  .inl (true, 324),
  .inl (true, 324),
  .inl (true, 81),
  .inl (false, 324),
  .inl (false, 324),
  .inl (false, 324),
  .inl (true, 324),
  .inl (false, 81),
  .inl (false, 81),
  .inl (false, 81),
  .inl (true, 81),
  .inl (false, 30)]
def SH (k : Nat) : Shp := SHL.getD k dSh
theorem sh0 : SH 0 = .inr (.inr (10, [some (some 1), some (some 8), some (some 15), some (some 157), some (some 159), some (some 165), some (some 171), some (some 179), some (some 194), some (some 197), some (some 208), none])) := rfl
theorem sh1 : SH 1 = .inr (.inr (1, [none, none, some (some 2), some (some 3), some (some 4), none, some (some 5), some (some 6), some (some 7)])) := rfl
theorem sh2 : SH 2 = .inl (false, 81) := rfl
theorem sh3 : SH 3 = .inl (false, 81) := rfl
theorem sh4 : SH 4 = .inl (false, 81) := rfl
theorem sh5 : SH 5 = .inl (false, 6) := rfl
theorem sh6 : SH 6 = .inl (false, 6) := rfl
theorem sh7 : SH 7 = .inl (false, 6) := rfl
theorem sh8 : SH 8 = .inr (.inr (1, [none, none, some (some 9), some (some 10), some (some 11), none, some (some 12), some (some 13), some (some 14)])) := rfl
theorem sh9 : SH 9 = .inl (false, 81) := rfl
theorem sh10 : SH 10 = .inl (false, 81) := rfl
theorem sh11 : SH 11 = .inl (false, 81) := rfl
theorem sh12 : SH 12 = .inl (false, 6) := rfl
theorem sh13 : SH 13 = .inl (false, 6) := rfl
theorem sh14 : SH 14 = .inl (false, 6) := rfl
theorem sh15 : SH 15 = .inr (.inr (2, [some (some 16), none, none])) := rfl
theorem sh16 : SH 16 = .inr (.inl (20, fun i => some (17 + 7 * i))) := rfl
theorem sh17 : SH 17 = .inr (.inr (1, [none, none, some (some 18), some (some 19), some (some 20), none, some (some 21), some (some 22), some (some 23)])) := rfl
theorem sh18 : SH 18 = .inl (false, 81) := rfl
theorem sh19 : SH 19 = .inl (false, 81) := rfl
theorem sh20 : SH 20 = .inl (false, 81) := rfl
theorem sh21 : SH 21 = .inl (false, 6) := rfl
theorem sh22 : SH 22 = .inl (false, 6) := rfl
theorem sh23 : SH 23 = .inl (false, 6) := rfl
theorem sh24 : SH 24 = .inr (.inr (1, [none, none, some (some 25), some (some 26), some (some 27), none, some (some 28), some (some 29), some (some 30)])) := rfl
theorem sh25 : SH 25 = .inl (false, 81) := rfl
theorem sh26 : SH 26 = .inl (false, 81) := rfl
theorem sh27 : SH 27 = .inl (false, 81) := rfl
theorem sh28 : SH 28 = .inl (false, 6) := rfl
theorem sh29 : SH 29 = .inl (false, 6) := rfl
theorem sh30 : SH 30 = .inl (false, 6) := rfl
theorem sh31 : SH 31 = .inr (.inr (1, [none, none, some (some 32), some (some 33), some (some 34), none, some (some 35), some (some 36), some (some 37)])) := rfl
theorem sh32 : SH 32 = .inl (false, 81) := rfl
theorem sh33 : SH 33 = .inl (false, 81) := rfl
theorem sh34 : SH 34 = .inl (false, 81) := rfl
theorem sh35 : SH 35 = .inl (false, 6) := rfl
theorem sh36 : SH 36 = .inl (false, 6) := rfl
theorem sh37 : SH 37 = .inl (false, 6) := rfl
theorem sh38 : SH 38 = .inr (.inr (1, [none, none, some (some 39), some (some 40), some (some 41), none, some (some 42), some (some 43), some (some 44)])) := rfl
theorem sh39 : SH 39 = .inl (false, 81) := rfl
theorem sh40 : SH 40 = .inl (false, 81) := rfl
theorem sh41 : SH 41 = .inl (false, 81) := rfl
theorem sh42 : SH 42 = .inl (false, 6) := rfl
theorem sh43 : SH 43 = .inl (false, 6) := rfl
theorem sh44 : SH 44 = .inl (false, 6) := rfl
theorem sh45 : SH 45 = .inr (.inr (1, [none, none, some (some 46), some (some 47), some (some 48), none, some (some 49), some (some 50), some (some 51)])) := rfl
theorem sh46 : SH 46 = .inl (false, 81) := rfl
theorem sh47 : SH 47 = .inl (false, 81) := rfl
theorem sh48 : SH 48 = .inl (false, 81) := rfl
theorem sh49 : SH 49 = .inl (false, 6) := rfl
theorem sh50 : SH 50 = .inl (false, 6) := rfl
theorem sh51 : SH 51 = .inl (false, 6) := rfl
theorem sh52 : SH 52 = .inr (.inr (1, [none, none, some (some 53), some (some 54), some (some 55), none, some (some 56), some (some 57), some (some 58)])) := rfl
theorem sh53 : SH 53 = .inl (false, 81) := rfl
theorem sh54 : SH 54 = .inl (false, 81) := rfl
theorem sh55 : SH 55 = .inl (false, 81) := rfl
theorem sh56 : SH 56 = .inl (false, 6) := rfl
theorem sh57 : SH 57 = .inl (false, 6) := rfl
theorem sh58 : SH 58 = .inl (false, 6) := rfl
theorem sh59 : SH 59 = .inr (.inr (1, [none, none, some (some 60), some (some 61), some (some 62), none, some (some 63), some (some 64), some (some 65)])) := rfl
theorem sh60 : SH 60 = .inl (false, 81) := rfl
theorem sh61 : SH 61 = .inl (false, 81) := rfl
theorem sh62 : SH 62 = .inl (false, 81) := rfl
theorem sh63 : SH 63 = .inl (false, 6) := rfl
theorem sh64 : SH 64 = .inl (false, 6) := rfl
theorem sh65 : SH 65 = .inl (false, 6) := rfl
theorem sh66 : SH 66 = .inr (.inr (1, [none, none, some (some 67), some (some 68), some (some 69), none, some (some 70), some (some 71), some (some 72)])) := rfl
theorem sh67 : SH 67 = .inl (false, 81) := rfl
theorem sh68 : SH 68 = .inl (false, 81) := rfl
theorem sh69 : SH 69 = .inl (false, 81) := rfl
theorem sh70 : SH 70 = .inl (false, 6) := rfl
theorem sh71 : SH 71 = .inl (false, 6) := rfl
theorem sh72 : SH 72 = .inl (false, 6) := rfl
theorem sh73 : SH 73 = .inr (.inr (1, [none, none, some (some 74), some (some 75), some (some 76), none, some (some 77), some (some 78), some (some 79)])) := rfl
theorem sh74 : SH 74 = .inl (false, 81) := rfl
theorem sh75 : SH 75 = .inl (false, 81) := rfl
theorem sh76 : SH 76 = .inl (false, 81) := rfl
theorem sh77 : SH 77 = .inl (false, 6) := rfl
theorem sh78 : SH 78 = .inl (false, 6) := rfl
theorem sh79 : SH 79 = .inl (false, 6) := rfl
theorem sh80 : SH 80 = .inr (.inr (1, [none, none, some (some 81), some (some 82), some (some 83), none, some (some 84), some (some 85), some (some 86)])) := rfl
theorem sh81 : SH 81 = .inl (false, 81) := rfl
theorem sh82 : SH 82 = .inl (false, 81) := rfl
theorem sh83 : SH 83 = .inl (false, 81) := rfl
theorem sh84 : SH 84 = .inl (false, 6) := rfl
theorem sh85 : SH 85 = .inl (false, 6) := rfl
theorem sh86 : SH 86 = .inl (false, 6) := rfl
theorem sh87 : SH 87 = .inr (.inr (1, [none, none, some (some 88), some (some 89), some (some 90), none, some (some 91), some (some 92), some (some 93)])) := rfl
theorem sh88 : SH 88 = .inl (false, 81) := rfl
theorem sh89 : SH 89 = .inl (false, 81) := rfl
theorem sh90 : SH 90 = .inl (false, 81) := rfl
theorem sh91 : SH 91 = .inl (false, 6) := rfl
theorem sh92 : SH 92 = .inl (false, 6) := rfl
theorem sh93 : SH 93 = .inl (false, 6) := rfl
theorem sh94 : SH 94 = .inr (.inr (1, [none, none, some (some 95), some (some 96), some (some 97), none, some (some 98), some (some 99), some (some 100)])) := rfl
theorem sh95 : SH 95 = .inl (false, 81) := rfl
theorem sh96 : SH 96 = .inl (false, 81) := rfl
theorem sh97 : SH 97 = .inl (false, 81) := rfl
theorem sh98 : SH 98 = .inl (false, 6) := rfl
theorem sh99 : SH 99 = .inl (false, 6) := rfl
theorem sh100 : SH 100 = .inl (false, 6) := rfl
theorem sh101 : SH 101 = .inr (.inr (1, [none, none, some (some 102), some (some 103), some (some 104), none, some (some 105), some (some 106), some (some 107)])) := rfl
theorem sh102 : SH 102 = .inl (false, 81) := rfl
theorem sh103 : SH 103 = .inl (false, 81) := rfl
theorem sh104 : SH 104 = .inl (false, 81) := rfl
theorem sh105 : SH 105 = .inl (false, 6) := rfl
theorem sh106 : SH 106 = .inl (false, 6) := rfl
theorem sh107 : SH 107 = .inl (false, 6) := rfl
theorem sh108 : SH 108 = .inr (.inr (1, [none, none, some (some 109), some (some 110), some (some 111), none, some (some 112), some (some 113), some (some 114)])) := rfl
theorem sh109 : SH 109 = .inl (false, 81) := rfl
theorem sh110 : SH 110 = .inl (false, 81) := rfl
theorem sh111 : SH 111 = .inl (false, 81) := rfl
theorem sh112 : SH 112 = .inl (false, 6) := rfl
theorem sh113 : SH 113 = .inl (false, 6) := rfl
theorem sh114 : SH 114 = .inl (false, 6) := rfl
theorem sh115 : SH 115 = .inr (.inr (1, [none, none, some (some 116), some (some 117), some (some 118), none, some (some 119), some (some 120), some (some 121)])) := rfl
theorem sh116 : SH 116 = .inl (false, 81) := rfl
theorem sh117 : SH 117 = .inl (false, 81) := rfl
theorem sh118 : SH 118 = .inl (false, 81) := rfl
theorem sh119 : SH 119 = .inl (false, 6) := rfl
theorem sh120 : SH 120 = .inl (false, 6) := rfl
theorem sh121 : SH 121 = .inl (false, 6) := rfl
theorem sh122 : SH 122 = .inr (.inr (1, [none, none, some (some 123), some (some 124), some (some 125), none, some (some 126), some (some 127), some (some 128)])) := rfl
theorem sh123 : SH 123 = .inl (false, 81) := rfl
theorem sh124 : SH 124 = .inl (false, 81) := rfl
theorem sh125 : SH 125 = .inl (false, 81) := rfl
theorem sh126 : SH 126 = .inl (false, 6) := rfl
theorem sh127 : SH 127 = .inl (false, 6) := rfl
theorem sh128 : SH 128 = .inl (false, 6) := rfl
theorem sh129 : SH 129 = .inr (.inr (1, [none, none, some (some 130), some (some 131), some (some 132), none, some (some 133), some (some 134), some (some 135)])) := rfl
theorem sh130 : SH 130 = .inl (false, 81) := rfl
theorem sh131 : SH 131 = .inl (false, 81) := rfl
theorem sh132 : SH 132 = .inl (false, 81) := rfl
theorem sh133 : SH 133 = .inl (false, 6) := rfl
theorem sh134 : SH 134 = .inl (false, 6) := rfl
theorem sh135 : SH 135 = .inl (false, 6) := rfl
theorem sh136 : SH 136 = .inr (.inr (1, [none, none, some (some 137), some (some 138), some (some 139), none, some (some 140), some (some 141), some (some 142)])) := rfl
theorem sh137 : SH 137 = .inl (false, 81) := rfl
theorem sh138 : SH 138 = .inl (false, 81) := rfl
theorem sh139 : SH 139 = .inl (false, 81) := rfl
theorem sh140 : SH 140 = .inl (false, 6) := rfl
theorem sh141 : SH 141 = .inl (false, 6) := rfl
theorem sh142 : SH 142 = .inl (false, 6) := rfl
theorem sh143 : SH 143 = .inr (.inr (1, [none, none, some (some 144), some (some 145), some (some 146), none, some (some 147), some (some 148), some (some 149)])) := rfl
theorem sh144 : SH 144 = .inl (false, 81) := rfl
theorem sh145 : SH 145 = .inl (false, 81) := rfl
theorem sh146 : SH 146 = .inl (false, 81) := rfl
theorem sh147 : SH 147 = .inl (false, 6) := rfl
theorem sh148 : SH 148 = .inl (false, 6) := rfl
theorem sh149 : SH 149 = .inl (false, 6) := rfl
theorem sh150 : SH 150 = .inr (.inr (1, [none, none, some (some 151), some (some 152), some (some 153), none, some (some 154), some (some 155), some (some 156)])) := rfl
theorem sh151 : SH 151 = .inl (false, 81) := rfl
theorem sh152 : SH 152 = .inl (false, 81) := rfl
theorem sh153 : SH 153 = .inl (false, 81) := rfl
theorem sh154 : SH 154 = .inl (false, 6) := rfl
theorem sh155 : SH 155 = .inl (false, 6) := rfl
theorem sh156 : SH 156 = .inl (false, 6) := rfl
theorem sh157 : SH 157 = .inr (.inr (3, [some (some 158), none, none])) := rfl
theorem sh158 : SH 158 = .inl (false, 324) := rfl
theorem sh159 : SH 159 = .inr (.inr (6, [some (some 160), none, some (some 161), some (some 162), some (some 163), none, none, some (some 164)])) := rfl
theorem sh160 : SH 160 = .inl (false, 324) := rfl
theorem sh161 : SH 161 = .inl (false, 324) := rfl
theorem sh162 : SH 162 = .inl (false, 81) := rfl
theorem sh163 : SH 163 = .inl (false, 81) := rfl
theorem sh164 : SH 164 = .inl (false, 81) := rfl
theorem sh165 : SH 165 = .inr (.inr (4, [some (some 166), some (some 167), none, some (some 168), some (some 169)])) := rfl
theorem sh166 : SH 166 = .inl (false, 324) := rfl
theorem sh167 : SH 167 = .inl (false, 324) := rfl
theorem sh168 : SH 168 = .inl (false, 324) := rfl
theorem sh169 : SH 169 = .inr (.inr (3, [some (some 170), none, none])) := rfl
theorem sh170 : SH 170 = .inl (false, 324) := rfl
theorem sh171 : SH 171 = .inr (.inr (0, [some (some 172), none, none, some (some 173)])) := rfl
theorem sh172 : SH 172 = .inl (false, 81) := rfl
theorem sh173 : SH 173 = .inr (.inr (6, [some (some 174), none, some (some 175), some (some 176), some (some 177), none, none, some (some 178)])) := rfl
theorem sh174 : SH 174 = .inl (false, 324) := rfl
theorem sh175 : SH 175 = .inl (false, 324) := rfl
theorem sh176 : SH 176 = .inl (false, 81) := rfl
theorem sh177 : SH 177 = .inl (false, 81) := rfl
theorem sh178 : SH 178 = .inl (false, 81) := rfl
theorem sh179 : SH 179 = .inr (.inr (7, [some (some 180), some (some 187), some (some 193), none, none, none, none])) := rfl
theorem sh180 : SH 180 = .inr (.inr (1, [none, none, some (some 181), some (some 182), some (some 183), none, some (some 184), some (some 185), some (some 186)])) := rfl
theorem sh181 : SH 181 = .inl (false, 81) := rfl
theorem sh182 : SH 182 = .inl (false, 81) := rfl
theorem sh183 : SH 183 = .inl (false, 81) := rfl
theorem sh184 : SH 184 = .inl (false, 6) := rfl
theorem sh185 : SH 185 = .inl (false, 6) := rfl
theorem sh186 : SH 186 = .inl (false, 6) := rfl
theorem sh187 : SH 187 = .inr (.inr (6, [some (some 188), none, some (some 189), some (some 190), some (some 191), none, none, some (some 192)])) := rfl
theorem sh188 : SH 188 = .inl (false, 324) := rfl
theorem sh189 : SH 189 = .inl (false, 324) := rfl
theorem sh190 : SH 190 = .inl (false, 81) := rfl
theorem sh191 : SH 191 = .inl (false, 81) := rfl
theorem sh192 : SH 192 = .inl (false, 81) := rfl
theorem sh193 : SH 193 = .inl (false, 10) := rfl
theorem sh194 : SH 194 = .inr (.inr (9, [some (some 195), none, some (some 196)])) := rfl
theorem sh195 : SH 195 = .inl (false, 81) := rfl
theorem sh196 : SH 196 = .inl (false, 81) := rfl
theorem sh197 : SH 197 = .inr (.inr (8, [some (some 198), some (some 201), some (some 207)])) := rfl
theorem sh198 : SH 198 = .inr (.inr (9, [some (some 199), none, some (some 200)])) := rfl
theorem sh199 : SH 199 = .inl (false, 81) := rfl
theorem sh200 : SH 200 = .inl (false, 81) := rfl
theorem sh201 : SH 201 = .inr (.inr (6, [some (some 202), none, some (some 203), some (some 204), some (some 205), none, none, some (some 206)])) := rfl
theorem sh202 : SH 202 = .inl (false, 324) := rfl
theorem sh203 : SH 203 = .inl (false, 324) := rfl
theorem sh204 : SH 204 = .inl (false, 81) := rfl
theorem sh205 : SH 205 = .inl (false, 81) := rfl
theorem sh206 : SH 206 = .inl (false, 81) := rfl
theorem sh207 : SH 207 = .inl (false, 81) := rfl
theorem sh208 : SH 208 = .inr (.inr (5, [some (some 209), some (some 210), some (some 211)])) := rfl
theorem sh209 : SH 209 = .inl (false, 4) := rfl
theorem sh210 : SH 210 = .inl (false, 4) := rfl
theorem sh211 : SH 211 = .inl (false, 120) := rfl
theorem sh212 : SH 212 = .inr (.inr (11, [some (some 213), some (some 214), none, some (some 215), some (some 216), some (some 217), none, none, some (some 218), none, some (some 219), some (some 220), some (some 221), some (some 222), none, some (some 223), some (some 224), some (some 225), none, some (some 226), some (some 227), some (some 228), some (some 229), some (some 230)])) := rfl
theorem sh213 : SH 213 = .inl (false, 265) := rfl
theorem sh214 : SH 214 = .inl (false, 5300) := rfl
theorem sh215 : SH 215 = .inl (false, 4) := rfl
theorem sh216 : SH 216 = .inl (false, 4) := rfl
theorem sh217 : SH 217 = .inl (false, 120) := rfl
theorem sh218 : SH 218 = .inl (false, 324) := rfl
theorem sh219 : SH 219 = .inl (true, 324) := rfl
theorem sh220 : SH 220 = .inl (true, 324) := rfl
theorem sh221 : SH 221 = .inl (true, 81) := rfl
theorem sh222 : SH 222 = .inl (false, 324) := rfl
theorem sh223 : SH 223 = .inl (false, 324) := rfl
theorem sh224 : SH 224 = .inl (false, 324) := rfl
theorem sh225 : SH 225 = .inl (true, 324) := rfl
theorem sh226 : SH 226 = .inl (false, 81) := rfl
theorem sh227 : SH 227 = .inl (false, 81) := rfl
theorem sh228 : SH 228 = .inl (false, 81) := rfl
theorem sh229 : SH 229 = .inl (true, 81) := rfl
theorem sh230 : SH 230 = .inl (false, 30) := rfl
theorem SH_out {k : Nat} (h : NN ≤ k) : SH k = dSh := by
  unfold SH
  rw [List.getD_eq_getElem?_getD, List.getElem?_eq_none (by show SHL.length ≤ k; exact h)]
  rfl
theorem sk0_0 : seek p0_0 0 = p0_0 := rfl
theorem sk0_18 : seek p0_0 18 = p0_18 := rfl
set_option maxRecDepth 100000 in
theorem sk0_184 : seek p0_0 184 = p0_184 := rfl
set_option maxRecDepth 100000 in
theorem sk0_217 : seek p0_0 217 = p0_217 := rfl
set_option maxRecDepth 100000 in
theorem sk0_260 : seek p0_0 260 = p0_260 := rfl
set_option maxRecDepth 100000 in
theorem sk0_283 : seek p0_0 283 = p0_283 := rfl
set_option maxRecDepth 100000 in
theorem sk0_316 : seek p0_0 316 = p0_316 := rfl
set_option maxRecDepth 100000 in
theorem sk0_349 : seek p0_0 349 = p0_349 := rfl
set_option maxRecDepth 100000 in
theorem sk0_372 : seek p0_0 372 = p0_372 := rfl
set_option maxRecDepth 100000 in
theorem sk0_395 : seek p0_0 395 = p0_395 := rfl
set_option maxRecDepth 100000 in
theorem sk0_428 : seek p0_0 428 = p0_428 := rfl
set_option maxRecDepth 100000 in
theorem sk0_471 : seek p0_0 471 = p0_471 := rfl
set_option maxRecDepth 100000 in
theorem sk0_504 : seek p0_0 504 = p0_504 := rfl
set_option maxRecDepth 100000 in
theorem sk0_527 : seek p0_0 527 = p0_527 := rfl
set_option maxRecDepth 100000 in
theorem sk0_528 : seek p0_0 528 = p0_528 := rfl
set_option maxRecDepth 100000 in
theorem sk0_554 : seek p0_0 554 = p0_554 := rfl
set_option maxRecDepth 100000 in
theorem sk0_555 : seek p0_0 555 = p0_555 := rfl
set_option maxRecDepth 100000 in
theorem sk0_563 : seek p0_0 563 = p0_563 := rfl
set_option maxRecDepth 100000 in
theorem sk0_596 : seek p0_0 596 = p0_596 := rfl
set_option maxRecDepth 100000 in
theorem sk0_619 : seek p0_0 619 = p0_619 := rfl
set_option maxRecDepth 100000 in
theorem sk0_632 : seek p0_0 632 = p0_632 := rfl
set_option maxRecDepth 100000 in
theorem sk0_650 : seek p0_0 650 = p0_650 := rfl
set_option maxRecDepth 100000 in
theorem sk0_651 : seek p0_0 651 = p0_651 := rfl
set_option maxRecDepth 100000 in
theorem sk0_672 : seek p0_0 672 = p0_672 := rfl
set_option maxRecDepth 100000 in
theorem sk0_673 : seek p0_0 673 = p0_673 := rfl
set_option maxRecDepth 100000 in
theorem sk0_681 : seek p0_0 681 = p0_681 := rfl
set_option maxRecDepth 100000 in
theorem sk0_724 : seek p0_0 724 = p0_724 := rfl
set_option maxRecDepth 100000 in
theorem sk0_737 : seek p0_0 737 = p0_737 := rfl
set_option maxRecDepth 100000 in
theorem sk0_770 : seek p0_0 770 = p0_770 := rfl
set_option maxRecDepth 100000 in
theorem sk0_793 : seek p0_0 793 = p0_793 := rfl
set_option maxRecDepth 100000 in
theorem sk0_816 : seek p0_0 816 = p0_816 := rfl
set_option maxRecDepth 100000 in
theorem sk0_829 : seek p0_0 829 = p0_829 := rfl
set_option maxRecDepth 100000 in
theorem sk0_830 : seek p0_0 830 = p0_830 := rfl
set_option maxRecDepth 100000 in
theorem sk0_846 : seek p0_0 846 = p0_846 := rfl
set_option maxRecDepth 100000 in
theorem sk0_847 : seek p0_0 847 = p0_847 := rfl
set_option maxRecDepth 100000 in
theorem sk0_855 : seek p0_0 855 = p0_855 := rfl
set_option maxRecDepth 100000 in
theorem sk0_868 : seek p0_0 868 = p0_868 := rfl
set_option maxRecDepth 100000 in
theorem sk0_901 : seek p0_0 901 = p0_901 := rfl
set_option maxRecDepth 100000 in
theorem sk0_924 : seek p0_0 924 = p0_924 := rfl
set_option maxRecDepth 100000 in
theorem sk0_957 : seek p0_0 957 = p0_957 := rfl
set_option maxRecDepth 100000 in
theorem sk0_990 : seek p0_0 990 = p0_990 := rfl
set_option maxRecDepth 100000 in
theorem sk0_1013 : seek p0_0 1013 = p0_1013 := rfl
set_option maxRecDepth 100000 in
theorem sk0_1046 : seek p0_0 1046 = p0_1046 := rfl
set_option maxRecDepth 100000 in
theorem sk0_1089 : seek p0_0 1089 = p0_1089 := rfl
set_option maxRecDepth 100000 in
theorem sk0_1132 : seek p0_0 1132 = p0_1132 := rfl
set_option maxRecDepth 100000 in
theorem sk0_1195 : seek p0_0 1195 = p0_1195 := rfl
set_option maxRecDepth 100000 in
theorem sk0_1228 : seek p0_0 1228 = p0_1228 := rfl
set_option maxRecDepth 100000 in
theorem sk0_1241 : seek p0_0 1241 = p0_1241 := rfl
set_option maxRecDepth 100000 in
theorem sk0_1264 : seek p0_0 1264 = p0_1264 := rfl
set_option maxRecDepth 100000 in
theorem sk0_1270 : seek p0_0 1270 = p0_1270 := rfl
theorem sk1_0 : seek p1_0 0 = p1_0 := rfl
theorem sk2_0 : seek p2_0 0 = p2_0 := rfl
theorem sk2_14 : seek p2_0 14 = p2_14 := rfl
theorem sk2_21 : seek p2_0 21 = p2_21 := rfl
theorem sk3_0 : seek p3_0 0 = p3_0 := rfl
theorem sk3_26 : seek p3_0 26 = p3_26 := rfl
theorem sk3_33 : seek p3_0 33 = p3_33 := rfl
theorem sk3_51 : seek p3_0 51 = p3_51 := rfl
theorem sk3_76 : seek p3_0 76 = p3_76 := rfl
theorem sk4_0 : seek p4_0 0 = p4_0 := rfl
theorem sk4_18 : seek p4_0 18 = p4_18 := rfl
theorem sk4_40 : seek p4_0 40 = p4_40 := rfl
theorem sk5_0 : seek p5_0 0 = p5_0 := rfl
theorem sk5_18 : seek p5_0 18 = p5_18 := rfl
theorem sk5_25 : seek p5_0 25 = p5_25 := rfl
theorem sk5_45 : seek p5_0 45 = p5_45 := rfl
theorem sk5_68 : seek p5_0 68 = p5_68 := rfl
theorem sk6_0 : seek p6_0 0 = p6_0 := rfl
theorem sk6_18 : seek p6_0 18 = p6_18 := rfl
theorem sk6_48 : seek p6_0 48 = p6_48 := rfl
theorem sk6_58 : seek p6_0 58 = p6_58 := rfl
theorem sk6_68 : seek p6_0 68 = p6_68 := rfl
theorem sk6_78 : seek p6_0 78 = p6_78 := rfl
theorem sk6_87 : seek p6_0 87 = p6_87 := rfl
theorem sk7_0 : seek p7_0 0 = p7_0 := rfl
theorem sk7_18 : seek p7_0 18 = p7_18 := rfl
theorem sk7_38 : seek p7_0 38 = p7_38 := rfl
theorem sk7_60 : seek p7_0 60 = p7_60 := rfl
theorem sk8_0 : seek p8_0 0 = p8_0 := rfl
theorem sk8_18 : seek p8_0 18 = p8_18 := rfl
theorem sk8_38 : seek p8_0 38 = p8_38 := rfl
theorem sk8_58 : seek p8_0 58 = p8_58 := rfl
theorem sk9_0 : seek p9_0 0 = p9_0 := rfl
theorem sk9_18 : seek p9_0 18 = p9_18 := rfl
theorem sk9_25 : seek p9_0 25 = p9_25 := rfl
theorem sk10_0 : seek p10_0 0 = p10_0 := rfl
theorem sk10_18 : seek p10_0 18 = p10_18 := rfl
theorem sk10_25 : seek p10_0 25 = p10_25 := rfl
theorem sk10_53 : seek p10_0 53 = p10_53 := rfl
theorem sk10_60 : seek p10_0 60 = p10_60 := rfl
theorem sk11_0 : seek p11_0 0 = p11_0 := rfl
theorem sk11_18 : seek p11_0 18 = p11_18 := rfl
theorem sk11_25 : seek p11_0 25 = p11_25 := rfl
theorem sk11_52 : seek p11_0 52 = p11_52 := rfl
theorem sk11_53 : seek p11_0 53 = p11_53 := rfl
theorem sk12_0 : seek p12_0 0 = p12_0 := rfl
theorem sk12_18 : seek p12_0 18 = p12_18 := rfl
theorem sk12_25 : seek p12_0 25 = p12_25 := rfl
theorem sk12_52 : seek p12_0 52 = p12_52 := rfl
theorem sk12_59 : seek p12_0 59 = p12_59 := rfl
theorem sk13_0 : seek p13_0 0 = p13_0 := rfl
theorem sk13_22 : seek p13_0 22 = p13_22 := rfl
theorem sk13_29 : seek p13_0 29 = p13_29 := rfl
theorem sk13_34 : seek p13_0 34 = p13_34 := rfl
theorem sk13_72 : seek p13_0 72 = p13_72 := rfl
theorem sk13_78 : seek p13_0 78 = p13_78 := rfl
theorem sk14_0 : seek p14_0 0 = p14_0 := rfl
theorem sk14_18 : seek p14_0 18 = p14_18 := rfl
theorem sk15_0 : seek p15_0 0 = p15_0 := rfl
theorem sk16_0 : seek p16_0 0 = p16_0 := rfl
theorem sk16_26 : seek p16_0 26 = p16_26 := rfl
theorem sk16_33 : seek p16_0 33 = p16_33 := rfl
theorem sk16_49 : seek p16_0 49 = p16_49 := rfl
theorem sk16_58 : seek p16_0 58 = p16_58 := rfl
theorem sk17_0 : seek p17_0 0 = p17_0 := rfl
theorem sk17_25 : seek p17_0 25 = p17_25 := rfl
theorem sk17_32 : seek p17_0 32 = p17_32 := rfl
theorem sk17_50 : seek p17_0 50 = p17_50 := rfl
theorem sk17_69 : seek p17_0 69 = p17_69 := rfl
theorem sk18_0 : seek p18_0 0 = p18_0 := rfl
theorem sk18_17 : seek p18_0 17 = p18_17 := rfl
theorem sk19_0 : seek p19_0 0 = p19_0 := rfl
theorem sk19_18 : seek p19_0 18 = p19_18 := rfl
theorem sk19_25 : seek p19_0 25 = p19_25 := rfl
theorem sk20_0 : seek p20_0 0 = p20_0 := rfl
theorem sk20_18 : seek p20_0 18 = p20_18 := rfl
theorem sk21_0 : seek p21_0 0 = p21_0 := rfl
theorem sk21_14 : seek p21_0 14 = p21_14 := rfl
theorem sk22_0 : seek p22_0 0 = p22_0 := rfl
theorem sk22_36 : seek p22_0 36 = p22_36 := rfl
theorem sk22_43 : seek p22_0 43 = p22_43 := rfl
theorem sk23_0 : seek p23_0 0 = p23_0 := rfl
theorem sk24_0 : seek p24_0 0 = p24_0 := rfl
theorem sk24_22 : seek p24_0 22 = p24_22 := rfl
theorem sk24_29 : seek p24_0 29 = p24_29 := rfl
theorem sk24_56 : seek p24_0 56 = p24_56 := rfl
theorem sk24_57 : seek p24_0 57 = p24_57 := rfl
theorem sk25_0 : seek p25_0 0 = p25_0 := rfl
theorem sk25_20 : seek p25_0 20 = p25_20 := rfl
theorem sk26_0 : seek p26_0 0 = p26_0 := rfl
theorem sk26_22 : seek p26_0 22 = p26_22 := rfl
theorem sk26_29 : seek p26_0 29 = p26_29 := rfl
theorem sk26_62 : seek p26_0 62 = p26_62 := rfl
theorem sk26_71 : seek p26_0 71 = p26_71 := rfl
theorem sk27_0 : seek p27_0 0 = p27_0 := rfl
theorem sk27_22 : seek p27_0 22 = p27_22 := rfl
theorem sk27_29 : seek p27_0 29 = p27_29 := rfl
theorem sk27_67 : seek p27_0 67 = p27_67 := rfl
theorem sk27_68 : seek p27_0 68 = p27_68 := rfl
theorem sk28_0 : seek p28_0 0 = p28_0 := rfl
theorem sk28_18 : seek p28_0 18 = p28_18 := rfl
theorem sk28_36 : seek p28_0 36 = p28_36 := rfl
theorem sk29_0 : seek p29_0 0 = p29_0 := rfl
theorem sk29_22 : seek p29_0 22 = p29_22 := rfl
theorem sk29_29 : seek p29_0 29 = p29_29 := rfl
theorem sk29_56 : seek p29_0 56 = p29_56 := rfl
theorem sk29_57 : seek p29_0 57 = p29_57 := rfl
theorem sk30_0 : seek p30_0 0 = p30_0 := rfl
theorem sk30_14 : seek p30_0 14 = p30_14 := rfl
theorem sk30_21 : seek p30_0 21 = p30_21 := rfl
theorem sk30_33 : seek p30_0 33 = p30_33 := rfl
theorem sk30_46 : seek p30_0 46 = p30_46 := rfl
theorem sk30_60 : seek p30_0 60 = p30_60 := rfl
theorem sk30_61 : seek p30_0 61 = p30_61 := rfl
theorem sk31_0 : seek p31_0 0 = p31_0 := rfl
theorem sk31_14 : seek p31_0 14 = p31_14 := rfl
theorem sk31_33 : seek p31_0 33 = p31_33 := rfl
theorem sk31_50 : seek p31_0 50 = p31_50 := rfl
theorem sk31_57 : seek p31_0 57 = p31_57 := rfl
theorem sk32_0 : seek p32_0 0 = p32_0 := rfl
theorem sk32_14 : seek p32_0 14 = p32_14 := rfl
theorem sk32_21 : seek p32_0 21 = p32_21 := rfl
theorem sk32_43 : seek p32_0 43 = p32_43 := rfl
theorem sk32_51 : seek p32_0 51 = p32_51 := rfl
theorem sk32_79 : seek p32_0 79 = p32_79 := rfl
theorem sk32_108 : seek p32_0 108 = p32_108 := rfl
theorem sk32_115 : seek p32_0 115 = p32_115 := rfl
theorem sk33_0 : seek p33_0 0 = p33_0 := rfl
theorem sk33_22 : seek p33_0 22 = p33_22 := rfl
theorem sk33_29 : seek p33_0 29 = p33_29 := rfl
theorem sk33_48 : seek p33_0 48 = p33_48 := rfl
theorem sk33_64 : seek p33_0 64 = p33_64 := rfl
theorem sk33_120 : seek p33_0 120 = p33_120 := rfl
theorem sk33_126 : seek p33_0 126 = p33_126 := rfl
theorem sk34_0 : seek p34_0 0 = p34_0 := rfl
theorem sk34_17 : seek p34_0 17 = p34_17 := rfl
theorem sk35_0 : seek p35_0 0 = p35_0 := rfl
theorem sk35_40 : seek p35_0 40 = p35_40 := rfl
theorem sk35_56 : seek p35_0 56 = p35_56 := rfl
theorem sk35_64 : seek p35_0 64 = p35_64 := rfl
theorem sk35_72 : seek p35_0 72 = p35_72 := rfl
theorem sk35_81 : seek p35_0 81 = p35_81 := rfl
theorem sk35_89 : seek p35_0 89 = p35_89 := rfl
theorem sk35_94 : seek p35_0 94 = p35_94 := rfl
theorem sk36_0 : seek p36_0 0 = p36_0 := rfl
theorem sk37_0 : seek p37_0 0 = p37_0 := rfl
theorem sk37_15 : seek p37_0 15 = p37_15 := rfl
theorem sk37_16 : seek p37_0 16 = p37_16 := rfl
theorem sk38_0 : seek p38_0 0 = p38_0 := rfl
theorem sk38_13 : seek p38_0 13 = p38_13 := rfl
theorem sk38_14 : seek p38_0 14 = p38_14 := rfl
theorem sk39_0 : seek p39_0 0 = p39_0 := rfl
theorem sk39_13 : seek p39_0 13 = p39_13 := rfl
theorem sk39_14 : seek p39_0 14 = p39_14 := rfl
theorem sk40_0 : seek p40_0 0 = p40_0 := rfl
theorem sk40_13 : seek p40_0 13 = p40_13 := rfl
theorem sk40_14 : seek p40_0 14 = p40_14 := rfl
theorem sk41_0 : seek p41_0 0 = p41_0 := rfl
theorem sk41_13 : seek p41_0 13 = p41_13 := rfl
theorem sk41_14 : seek p41_0 14 = p41_14 := rfl
theorem sk42_0 : seek p42_0 0 = p42_0 := rfl
theorem sk42_22 : seek p42_0 22 = p42_22 := rfl
theorem sk42_26 : seek p42_0 26 = p42_26 := rfl
theorem sk42_27 : seek p42_0 27 = p42_27 := rfl
theorem sk43_0 : seek p43_0 0 = p43_0 := rfl
theorem sk43_10 : seek p43_0 10 = p43_10 := rfl
theorem sk43_26 : seek p43_0 26 = p43_26 := rfl
theorem sk43_30 : seek p43_0 30 = p43_30 := rfl
theorem sk43_31 : seek p43_0 31 = p43_31 := rfl
theorem sk43_32 : seek p43_0 32 = p43_32 := rfl
theorem sk43_40 : seek p43_0 40 = p43_40 := rfl
theorem sk43_41 : seek p43_0 41 = p43_41 := rfl
theorem sk44_0 : seek p44_0 0 = p44_0 := rfl
theorem sk44_15 : seek p44_0 15 = p44_15 := rfl
theorem sk44_19 : seek p44_0 19 = p44_19 := rfl
theorem sk44_20 : seek p44_0 20 = p44_20 := rfl
theorem sk45_0 : seek p45_0 0 = p45_0 := rfl
theorem sk45_4 : seek p45_0 4 = p45_4 := rfl
theorem sk45_23 : seek p45_0 23 = p45_23 := rfl
theorem sk45_35 : seek p45_0 35 = p45_35 := rfl
theorem sk46_0 : seek p46_0 0 = p46_0 := rfl
set_option maxRecDepth 100000 in
theorem sk46_173 : seek p46_0 173 = p46_173 := rfl
set_option maxRecDepth 100000 in
theorem sk46_194 : seek p46_0 194 = p46_194 := rfl
theorem sk47_0 : seek p47_0 0 = p47_0 := rfl
theorem sk48_0 : seek p48_0 0 = p48_0 := rfl
theorem sk48_14 : seek p48_0 14 = p48_14 := rfl
theorem sk48_15 : seek p48_0 15 = p48_15 := rfl
theorem sk49_0 : seek p49_0 0 = p49_0 := rfl
theorem sk49_40 : seek p49_0 40 = p49_40 := rfl
theorem sk49_41 : seek p49_0 41 = p49_41 := rfl
theorem sk50_0 : seek p50_0 0 = p50_0 := rfl
theorem sk51_0 : seek p51_0 0 = p51_0 := rfl
theorem sk51_18 : seek p51_0 18 = p51_18 := rfl
theorem sk51_19 : seek p51_0 19 = p51_19 := rfl
theorem sk52_0 : seek p52_0 0 = p52_0 := rfl
theorem sk53_0 : seek p53_0 0 = p53_0 := rfl
theorem sk53_15 : seek p53_0 15 = p53_15 := rfl
theorem sk53_19 : seek p53_0 19 = p53_19 := rfl
theorem sk53_20 : seek p53_0 20 = p53_20 := rfl
theorem sk54_0 : seek p54_0 0 = p54_0 := rfl
theorem sk54_11 : seek p54_0 11 = p54_11 := rfl
theorem sk54_40 : seek p54_0 40 = p54_40 := rfl
theorem sk54_50 : seek p54_0 50 = p54_50 := rfl
theorem sk54_52 : seek p54_0 52 = p54_52 := rfl
theorem sk54_86 : seek p54_0 86 = p54_86 := rfl
theorem sk55_0 : seek p55_0 0 = p55_0 := rfl
theorem sk55_14 : seek p55_0 14 = p55_14 := rfl
theorem sk55_26 : seek p55_0 26 = p55_26 := rfl
theorem sk55_60 : seek p55_0 60 = p55_60 := rfl
theorem sk56_0 : seek p56_0 0 = p56_0 := rfl
theorem sk56_4 : seek p56_0 4 = p56_4 := rfl
theorem sk56_24 : seek p56_0 24 = p56_24 := rfl
theorem sk56_25 : seek p56_0 25 = p56_25 := rfl
theorem sk56_33 : seek p56_0 33 = p56_33 := rfl
theorem sk57_0 : seek p57_0 0 = p57_0 := rfl
theorem sk57_4 : seek p57_0 4 = p57_4 := rfl
theorem sk57_24 : seek p57_0 24 = p57_24 := rfl
theorem sk57_25 : seek p57_0 25 = p57_25 := rfl
theorem sk57_33 : seek p57_0 33 = p57_33 := rfl
theorem sk58_0 : seek p58_0 0 = p58_0 := rfl
theorem sk59_0 : seek p59_0 0 = p59_0 := rfl
theorem sk59_20 : seek p59_0 20 = p59_20 := rfl
theorem sk59_27 : seek p59_0 27 = p59_27 := rfl
theorem sk59_47 : seek p59_0 47 = p59_47 := rfl
theorem sk59_68 : seek p59_0 68 = p59_68 := rfl
theorem sk59_74 : seek p59_0 74 = p59_74 := rfl
theorem sk59_91 : seek p59_0 91 = p59_91 := rfl
theorem sk59_120 : seek p59_0 120 = p59_120 := rfl
set_option maxRecDepth 100000 in
theorem sk59_168 : seek p59_0 168 = p59_168 := rfl
set_option maxRecDepth 100000 in
theorem sk59_178 : seek p59_0 178 = p59_178 := rfl
set_option maxRecDepth 100000 in
theorem sk59_184 : seek p59_0 184 = p59_184 := rfl
theorem sk60_0 : seek p60_0 0 = p60_0 := rfl
theorem sk60_2 : seek p60_0 2 = p60_2 := rfl
theorem sk60_30 : seek p60_0 30 = p60_30 := rfl
theorem sk60_36 : seek p60_0 36 = p60_36 := rfl
theorem sk61_0 : seek p61_0 0 = p61_0 := rfl
theorem sk61_30 : seek p61_0 30 = p61_30 := rfl
theorem sk61_39 : seek p61_0 39 = p61_39 := rfl
theorem sk61_40 : seek p61_0 40 = p61_40 := rfl
theorem sk61_46 : seek p61_0 46 = p61_46 := rfl
theorem sk61_53 : seek p61_0 53 = p61_53 := rfl
theorem sk61_70 : seek p61_0 70 = p61_70 := rfl
theorem sk61_77 : seek p61_0 77 = p61_77 := rfl
theorem sk61_98 : seek p61_0 98 = p61_98 := rfl
theorem sk62_0 : seek p62_0 0 = p62_0 := rfl
theorem sk62_15 : seek p62_0 15 = p62_15 := rfl
theorem sk62_33 : seek p62_0 33 = p62_33 := rfl
theorem sk63_0 : seek p63_0 0 = p63_0 := rfl
theorem sk63_17 : seek p63_0 17 = p63_17 := rfl
theorem sk63_24 : seek p63_0 24 = p63_24 := rfl
theorem sk63_42 : seek p63_0 42 = p63_42 := rfl
theorem sk63_63 : seek p63_0 63 = p63_63 := rfl
theorem sk63_67 : seek p63_0 67 = p63_67 := rfl
theorem sk63_73 : seek p63_0 73 = p63_73 := rfl
theorem sk64_0 : seek p64_0 0 = p64_0 := rfl
theorem sk64_17 : seek p64_0 17 = p64_17 := rfl
theorem sk64_24 : seek p64_0 24 = p64_24 := rfl
theorem sk64_36 : seek p64_0 36 = p64_36 := rfl
theorem sk64_53 : seek p64_0 53 = p64_53 := rfl
theorem sk64_71 : seek p64_0 71 = p64_71 := rfl
theorem sk64_76 : seek p64_0 76 = p64_76 := rfl
theorem sk65_0 : seek p65_0 0 = p65_0 := rfl
theorem sk65_15 : seek p65_0 15 = p65_15 := rfl
theorem sk65_31 : seek p65_0 31 = p65_31 := rfl
theorem sk65_49 : seek p65_0 49 = p65_49 := rfl
theorem sk66_0 : seek p66_0 0 = p66_0 := rfl
theorem sk66_15 : seek p66_0 15 = p66_15 := rfl
theorem sk66_31 : seek p66_0 31 = p66_31 := rfl
theorem sk66_47 : seek p66_0 47 = p66_47 := rfl
theorem sk67_0 : seek p67_0 0 = p67_0 := rfl
theorem sk67_12 : seek p67_0 12 = p67_12 := rfl
theorem sk67_21 : seek p67_0 21 = p67_21 := rfl
theorem sk67_22 : seek p67_0 22 = p67_22 := rfl
theorem sk67_37 : seek p67_0 37 = p67_37 := rfl
theorem sk67_46 : seek p67_0 46 = p67_46 := rfl
theorem sk67_47 : seek p67_0 47 = p67_47 := rfl
theorem sk67_93 : seek p67_0 93 = p67_93 := rfl
theorem sk67_94 : seek p67_0 94 = p67_94 := rfl
theorem sk68_0 : seek p68_0 0 = p68_0 := rfl
theorem sk68_30 : seek p68_0 30 = p68_30 := rfl
theorem sk68_34 : seek p68_0 34 = p68_34 := rfl
theorem sk68_35 : seek p68_0 35 = p68_35 := rfl
theorem sk69_0 : seek p69_0 0 = p69_0 := rfl
theorem sk69_10 : seek p69_0 10 = p69_10 := rfl
theorem sk69_21 : seek p69_0 21 = p69_21 := rfl
theorem sk69_24 : seek p69_0 24 = p69_24 := rfl
theorem sk70_0 : seek p70_0 0 = p70_0 := rfl
theorem sk70_23 : seek p70_0 23 = p70_23 := rfl
theorem sk70_25 : seek p70_0 25 = p70_25 := rfl
theorem sk70_57 : seek p70_0 57 = p70_57 := rfl
theorem sk70_60 : seek p70_0 60 = p70_60 := rfl
theorem sk71_0 : seek p71_0 0 = p71_0 := rfl
theorem sk71_7 : seek p71_0 7 = p71_7 := rfl
theorem sk71_42 : seek p71_0 42 = p71_42 := rfl
theorem sk71_52 : seek p71_0 52 = p71_52 := rfl
theorem sk71_53 : seek p71_0 53 = p71_53 := rfl
theorem sk72_0 : seek p72_0 0 = p72_0 := rfl
theorem sk72_15 : seek p72_0 15 = p72_15 := rfl
theorem sk72_22 : seek p72_0 22 = p72_22 := rfl
theorem sk73_0 : seek p73_0 0 = p73_0 := rfl
theorem sk73_19 : seek p73_0 19 = p73_19 := rfl
theorem sk73_26 : seek p73_0 26 = p73_26 := rfl
theorem sk73_52 : seek p73_0 52 = p73_52 := rfl
theorem sk73_58 : seek p73_0 58 = p73_58 := rfl
theorem sk74_0 : seek p74_0 0 = p74_0 := rfl
theorem sk74_15 : seek p74_0 15 = p74_15 := rfl
theorem sk74_22 : seek p74_0 22 = p74_22 := rfl
theorem sk74_42 : seek p74_0 42 = p74_42 := rfl
theorem sk74_43 : seek p74_0 43 = p74_43 := rfl
theorem sk75_0 : seek p75_0 0 = p75_0 := rfl
theorem sk75_2 : seek p75_0 2 = p75_2 := rfl
theorem sk75_38 : seek p75_0 38 = p75_38 := rfl
theorem sk75_57 : seek p75_0 57 = p75_57 := rfl
theorem sk75_125 : seek p75_0 125 = p75_125 := rfl
theorem sk75_126 : seek p75_0 126 = p75_126 := rfl
theorem sk75_130 : seek p75_0 130 = p75_130 := rfl
set_option maxRecDepth 100000 in
theorem sk75_158 : seek p75_0 158 = p75_158 := rfl
set_option maxRecDepth 100000 in
theorem sk75_169 : seek p75_0 169 = p75_169 := rfl
set_option maxRecDepth 100000 in
theorem sk75_197 : seek p75_0 197 = p75_197 := rfl
set_option maxRecDepth 100000 in
theorem sk75_200 : seek p75_0 200 = p75_200 := rfl
theorem sk76_0 : seek p76_0 0 = p76_0 := rfl
theorem sk76_43 : seek p76_0 43 = p76_43 := rfl
theorem sk77_0 : seek p77_0 0 = p77_0 := rfl
theorem sk77_50 : seek p77_0 50 = p77_50 := rfl
theorem sk77_54 : seek p77_0 54 = p77_54 := rfl
theorem sk77_55 : seek p77_0 55 = p77_55 := rfl
theorem sk78_0 : seek p78_0 0 = p78_0 := rfl
theorem sk78_50 : seek p78_0 50 = p78_50 := rfl
theorem sk78_54 : seek p78_0 54 = p78_54 := rfl
theorem sk78_55 : seek p78_0 55 = p78_55 := rfl
theorem sk79_0 : seek p79_0 0 = p79_0 := rfl
theorem sk79_15 : seek p79_0 15 = p79_15 := rfl
theorem sk79_22 : seek p79_0 22 = p79_22 := rfl
theorem sk79_37 : seek p79_0 37 = p79_37 := rfl
theorem sk79_50 : seek p79_0 50 = p79_50 := rfl
theorem sk79_77 : seek p79_0 77 = p79_77 := rfl
theorem sk79_78 : seek p79_0 78 = p79_78 := rfl
theorem sk79_87 : seek p79_0 87 = p79_87 := rfl
theorem sk79_98 : seek p79_0 98 = p79_98 := rfl
theorem sk79_107 : seek p79_0 107 = p79_107 := rfl
theorem sk79_108 : seek p79_0 108 = p79_108 := rfl
theorem sk79_117 : seek p79_0 117 = p79_117 := rfl
theorem sk80_0 : seek p80_0 0 = p80_0 := rfl
theorem sk80_5 : seek p80_0 5 = p80_5 := rfl
theorem sk80_37 : seek p80_0 37 = p80_37 := rfl
theorem sk80_38 : seek p80_0 38 = p80_38 := rfl
theorem sk80_46 : seek p80_0 46 = p80_46 := rfl
theorem sk81_0 : seek p81_0 0 = p81_0 := rfl
theorem sk81_25 : seek p81_0 25 = p81_25 := rfl
theorem sk81_31 : seek p81_0 31 = p81_31 := rfl
theorem sk82_0 : seek p82_0 0 = p82_0 := rfl
theorem sk82_15 : seek p82_0 15 = p82_15 := rfl
theorem sk82_19 : seek p82_0 19 = p82_19 := rfl
theorem sk82_47 : seek p82_0 47 = p82_47 := rfl
theorem sk82_48 : seek p82_0 48 = p82_48 := rfl
theorem sk82_56 : seek p82_0 56 = p82_56 := rfl
theorem sk83_0 : seek p83_0 0 = p83_0 := rfl
theorem sk83_7 : seek p83_0 7 = p83_7 := rfl
theorem sk83_27 : seek p83_0 27 = p83_27 := rfl
theorem sk83_29 : seek p83_0 29 = p83_29 := rfl
theorem sk83_69 : seek p83_0 69 = p83_69 := rfl
theorem sk83_95 : seek p83_0 95 = p83_95 := rfl
theorem sk83_128 : seek p83_0 128 = p83_128 := rfl
theorem sk83_134 : seek p83_0 134 = p83_134 := rfl
theorem sk84_0 : seek p84_0 0 = p84_0 := rfl
theorem sk85_0 : seek p85_0 0 = p85_0 := rfl
theorem sk85_16 : seek p85_0 16 = p85_16 := rfl
theorem sk85_23 : seek p85_0 23 = p85_23 := rfl
theorem sk85_36 : seek p85_0 36 = p85_36 := rfl
theorem sk85_42 : seek p85_0 42 = p85_42 := rfl
theorem sk86_0 : seek p86_0 0 = p86_0 := rfl
theorem sk86_24 : seek p86_0 24 = p86_24 := rfl
theorem sk86_31 : seek p86_0 31 = p86_31 := rfl
theorem sk86_48 : seek p86_0 48 = p86_48 := rfl
theorem sk86_55 : seek p86_0 55 = p86_55 := rfl
theorem sk86_73 : seek p86_0 73 = p86_73 := rfl
theorem sk87_0 : seek p87_0 0 = p87_0 := rfl
theorem sk87_16 : seek p87_0 16 = p87_16 := rfl
theorem sk88_0 : seek p88_0 0 = p88_0 := rfl
theorem sk88_15 : seek p88_0 15 = p88_15 := rfl
theorem sk88_22 : seek p88_0 22 = p88_22 := rfl
theorem sk89_0 : seek p89_0 0 = p89_0 := rfl
theorem sk89_2 : seek p89_0 2 = p89_2 := rfl
theorem sk89_21 : seek p89_0 21 = p89_21 := rfl
theorem sk89_23 : seek p89_0 23 = p89_23 := rfl
theorem sk89_68 : seek p89_0 68 = p89_68 := rfl
theorem sk89_98 : seek p89_0 98 = p89_98 := rfl
theorem sk89_117 : seek p89_0 117 = p89_117 := rfl
theorem sk89_118 : seek p89_0 118 = p89_118 := rfl
theorem sk89_126 : seek p89_0 126 = p89_126 := rfl
theorem sk89_132 : seek p89_0 132 = p89_132 := rfl
theorem sk90_0 : seek p90_0 0 = p90_0 := rfl
theorem sk90_15 : seek p90_0 15 = p90_15 := rfl
theorem sk91_0 : seek p91_0 0 = p91_0 := rfl
theorem sk91_16 : seek p91_0 16 = p91_16 := rfl
theorem sk91_24 : seek p91_0 24 = p91_24 := rfl
theorem sk91_49 : seek p91_0 49 = p91_49 := rfl
theorem sk92_0 : seek p92_0 0 = p92_0 := rfl
theorem sk92_4 : seek p92_0 4 = p92_4 := rfl
theorem sk92_29 : seek p92_0 29 = p92_29 := rfl
theorem sk93_0 : seek p93_0 0 = p93_0 := rfl
theorem sk93_4 : seek p93_0 4 = p93_4 := rfl
theorem sk93_16 : seek p93_0 16 = p93_16 := rfl
theorem sk93_79 : seek p93_0 79 = p93_79 := rfl
theorem sk93_85 : seek p93_0 85 = p93_85 := rfl
theorem sk93_94 : seek p93_0 94 = p93_94 := rfl
theorem sk93_95 : seek p93_0 95 = p93_95 := rfl
theorem sk93_100 : seek p93_0 100 = p93_100 := rfl
theorem sk94_0 : seek p94_0 0 = p94_0 := rfl
theorem sk94_2 : seek p94_0 2 = p94_2 := rfl
theorem sk94_30 : seek p94_0 30 = p94_30 := rfl
theorem sk94_43 : seek p94_0 43 = p94_43 := rfl
theorem sk94_74 : seek p94_0 74 = p94_74 := rfl
theorem sk94_82 : seek p94_0 82 = p94_82 := rfl
theorem sk94_83 : seek p94_0 83 = p94_83 := rfl
theorem sk95_0 : seek p95_0 0 = p95_0 := rfl
theorem sk96_0 : seek p96_0 0 = p96_0 := rfl
theorem sk96_7 : seek p96_0 7 = p96_7 := rfl
theorem sk96_58 : seek p96_0 58 = p96_58 := rfl
theorem sk96_61 : seek p96_0 61 = p96_61 := rfl
theorem sk96_67 : seek p96_0 67 = p96_67 := rfl
theorem sk97_0 : seek p97_0 0 = p97_0 := rfl
theorem sk97_16 : seek p97_0 16 = p97_16 := rfl
theorem sk97_23 : seek p97_0 23 = p97_23 := rfl
theorem sk97_32 : seek p97_0 32 = p97_32 := rfl
theorem sk97_106 : seek p97_0 106 = p97_106 := rfl
theorem sk97_120 : seek p97_0 120 = p97_120 := rfl
theorem sk97_133 : seek p97_0 133 = p97_133 := rfl
theorem sk97_134 : seek p97_0 134 = p97_134 := rfl
theorem sk98_0 : seek p98_0 0 = p98_0 := rfl
theorem sk98_23 : seek p98_0 23 = p98_23 := rfl
theorem sk99_0 : seek p99_0 0 = p99_0 := rfl
theorem sk99_23 : seek p99_0 23 = p99_23 := rfl
theorem sk99_27 : seek p99_0 27 = p99_27 := rfl
theorem sk99_28 : seek p99_0 28 = p99_28 := rfl
theorem sk100_0 : seek p100_0 0 = p100_0 := rfl
theorem sk100_2 : seek p100_0 2 = p100_2 := rfl
theorem sk100_21 : seek p100_0 21 = p100_21 := rfl
theorem sk100_30 : seek p100_0 30 = p100_30 := rfl
theorem sk100_48 : seek p100_0 48 = p100_48 := rfl
theorem sk100_67 : seek p100_0 67 = p100_67 := rfl
theorem sk100_134 : seek p100_0 134 = p100_134 := rfl
theorem sk100_140 : seek p100_0 140 = p100_140 := rfl
theorem sk100_143 : seek p100_0 143 = p100_143 := rfl
theorem sk101_0 : seek p101_0 0 = p101_0 := rfl
theorem sk101_16 : seek p101_0 16 = p101_16 := rfl
theorem sk101_23 : seek p101_0 23 = p101_23 := rfl
theorem sk101_46 : seek p101_0 46 = p101_46 := rfl
theorem sk101_52 : seek p101_0 52 = p101_52 := rfl
theorem sk102_0 : seek p102_0 0 = p102_0 := rfl
theorem sk102_7 : seek p102_0 7 = p102_7 := rfl
theorem sk102_64 : seek p102_0 64 = p102_64 := rfl
theorem sk102_70 : seek p102_0 70 = p102_70 := rfl
theorem sk103_0 : seek p103_0 0 = p103_0 := rfl
theorem sk103_16 : seek p103_0 16 = p103_16 := rfl
theorem sk103_23 : seek p103_0 23 = p103_23 := rfl
theorem sk103_43 : seek p103_0 43 = p103_43 := rfl
theorem sk103_44 : seek p103_0 44 = p103_44 := rfl
theorem sk104_0 : seek p104_0 0 = p104_0 := rfl
theorem sk104_15 : seek p104_0 15 = p104_15 := rfl
theorem sk104_30 : seek p104_0 30 = p104_30 := rfl
theorem sk104_39 : seek p104_0 39 = p104_39 := rfl
theorem sk104_59 : seek p104_0 59 = p104_59 := rfl
theorem sk104_60 : seek p104_0 60 = p104_60 := rfl
theorem sk104_68 : seek p104_0 68 = p104_68 := rfl
theorem sk105_0 : seek p105_0 0 = p105_0 := rfl
theorem sk105_16 : seek p105_0 16 = p105_16 := rfl
theorem sk105_23 : seek p105_0 23 = p105_23 := rfl
theorem sk105_44 : seek p105_0 44 = p105_44 := rfl
theorem sk105_46 : seek p105_0 46 = p105_46 := rfl
theorem sk105_65 : seek p105_0 65 = p105_65 := rfl
theorem sk105_70 : seek p105_0 70 = p105_70 := rfl
theorem sk105_93 : seek p105_0 93 = p105_93 := rfl
theorem sk105_122 : seek p105_0 122 = p105_122 := rfl
theorem sk106_0 : seek p106_0 0 = p106_0 := rfl
theorem sk106_10 : seek p106_0 10 = p106_10 := rfl
theorem sk106_52 : seek p106_0 52 = p106_52 := rfl
theorem sk106_58 : seek p106_0 58 = p106_58 := rfl
theorem sk107_0 : seek p107_0 0 = p107_0 := rfl
theorem sk108_0 : seek p108_0 0 = p108_0 := rfl
theorem sk108_29 : seek p108_0 29 = p108_29 := rfl
theorem sk108_36 : seek p108_0 36 = p108_36 := rfl
theorem sk108_47 : seek p108_0 47 = p108_47 := rfl
theorem sk108_60 : seek p108_0 60 = p108_60 := rfl
theorem sk108_80 : seek p108_0 80 = p108_80 := rfl
theorem sk108_81 : seek p108_0 81 = p108_81 := rfl
theorem sk108_85 : seek p108_0 85 = p108_85 := rfl
theorem sk108_111 : seek p108_0 111 = p108_111 := rfl
theorem sk109_0 : seek p109_0 0 = p109_0 := rfl
theorem sk109_14 : seek p109_0 14 = p109_14 := rfl
theorem sk109_30 : seek p109_0 30 = p109_30 := rfl
theorem sk109_44 : seek p109_0 44 = p109_44 := rfl
theorem sk109_51 : seek p109_0 51 = p109_51 := rfl
theorem sk109_77 : seek p109_0 77 = p109_77 := rfl
theorem sk109_93 : seek p109_0 93 = p109_93 := rfl
theorem sk109_94 : seek p109_0 94 = p109_94 := rfl
theorem sk110_0 : seek p110_0 0 = p110_0 := rfl
theorem sk110_34 : seek p110_0 34 = p110_34 := rfl
theorem sk110_35 : seek p110_0 35 = p110_35 := rfl
theorem sk111_0 : seek p111_0 0 = p111_0 := rfl
theorem sk111_14 : seek p111_0 14 = p111_14 := rfl
theorem sk111_21 : seek p111_0 21 = p111_21 := rfl
theorem sk111_39 : seek p111_0 39 = p111_39 := rfl
theorem sk111_46 : seek p111_0 46 = p111_46 := rfl
theorem sk111_68 : seek p111_0 68 = p111_68 := rfl
theorem sk111_91 : seek p111_0 91 = p111_91 := rfl
theorem sk111_98 : seek p111_0 98 = p111_98 := rfl
theorem sk111_101 : seek p111_0 101 = p111_101 := rfl
theorem sk111_135 : seek p111_0 135 = p111_135 := rfl
theorem sk111_138 : seek p111_0 138 = p111_138 := rfl
set_option maxRecDepth 100000 in
theorem sk111_173 : seek p111_0 173 = p111_173 := rfl
theorem sk112_0 : seek p112_0 0 = p112_0 := rfl
theorem sk112_21 : seek p112_0 21 = p112_21 := rfl
theorem sk112_28 : seek p112_0 28 = p112_28 := rfl
theorem sk112_44 : seek p112_0 44 = p112_44 := rfl
theorem sk112_53 : seek p112_0 53 = p112_53 := rfl
theorem sk112_130 : seek p112_0 130 = p112_130 := rfl
theorem sk112_140 : seek p112_0 140 = p112_140 := rfl
theorem sk112_150 : seek p112_0 150 = p112_150 := rfl
set_option maxRecDepth 100000 in
theorem sk112_161 : seek p112_0 161 = p112_161 := rfl
set_option maxRecDepth 100000 in
theorem sk112_162 : seek p112_0 162 = p112_162 := rfl
set_option maxRecDepth 100000 in
theorem sk112_172 : seek p112_0 172 = p112_172 := rfl
set_option maxRecDepth 100000 in
theorem sk112_186 : seek p112_0 186 = p112_186 := rfl
set_option maxRecDepth 100000 in
theorem sk112_191 : seek p112_0 191 = p112_191 := rfl
set_option maxRecDepth 100000 in
theorem sk112_197 : seek p112_0 197 = p112_197 := rfl
set_option maxRecDepth 100000 in
theorem sk112_203 : seek p112_0 203 = p112_203 := rfl
theorem sk113_0 : seek p113_0 0 = p113_0 := rfl
theorem sk113_40 : seek p113_0 40 = p113_40 := rfl
theorem sk113_54 : seek p113_0 54 = p113_54 := rfl
theorem sk113_59 : seek p113_0 59 = p113_59 := rfl
theorem sk113_66 : seek p113_0 66 = p113_66 := rfl
theorem sk113_71 : seek p113_0 71 = p113_71 := rfl
theorem sk113_76 : seek p113_0 76 = p113_76 := rfl
theorem sk113_81 : seek p113_0 81 = p113_81 := rfl
theorem sk114_0 : seek p114_0 0 = p114_0 := rfl
theorem sk115_0 : seek p115_0 0 = p115_0 := rfl
theorem sk115_10 : seek p115_0 10 = p115_10 := rfl
theorem sk115_40 : seek p115_0 40 = p115_40 := rfl
theorem sk115_78 : seek p115_0 78 = p115_78 := rfl
theorem sk115_95 : seek p115_0 95 = p115_95 := rfl
theorem sk115_101 : seek p115_0 101 = p115_101 := rfl
theorem sk115_107 : seek p115_0 107 = p115_107 := rfl
theorem sk116_0 : seek p116_0 0 = p116_0 := rfl
theorem sk116_4 : seek p116_0 4 = p116_4 := rfl
theorem sk116_29 : seek p116_0 29 = p116_29 := rfl
theorem sk117_0 : seek p117_0 0 = p117_0 := rfl
theorem sk117_12 : seek p117_0 12 = p117_12 := rfl
theorem sk117_36 : seek p117_0 36 = p117_36 := rfl
theorem sk117_62 : seek p117_0 62 = p117_62 := rfl
theorem sk118_0 : seek p118_0 0 = p118_0 := rfl
theorem sk118_4 : seek p118_0 4 = p118_4 := rfl
theorem sk118_58 : seek p118_0 58 = p118_58 := rfl
theorem sk118_64 : seek p118_0 64 = p118_64 := rfl
theorem sk119_0 : seek p119_0 0 = p119_0 := rfl
theorem sk120_0 : seek p120_0 0 = p120_0 := rfl
theorem sk121_0 : seek p121_0 0 = p121_0 := rfl
theorem sk121_36 : seek p121_0 36 = p121_36 := rfl
theorem sk121_37 : seek p121_0 37 = p121_37 := rfl
theorem sk122_0 : seek p122_0 0 = p122_0 := rfl
theorem sk122_16 : seek p122_0 16 = p122_16 := rfl
theorem sk122_17 : seek p122_0 17 = p122_17 := rfl
theorem sk123_0 : seek p123_0 0 = p123_0 := rfl
theorem sk123_49 : seek p123_0 49 = p123_49 := rfl
theorem sk123_51 : seek p123_0 51 = p123_51 := rfl
theorem sk124_0 : seek p124_0 0 = p124_0 := rfl
theorem sk124_28 : seek p124_0 28 = p124_28 := rfl
theorem sk124_32 : seek p124_0 32 = p124_32 := rfl
theorem sk124_33 : seek p124_0 33 = p124_33 := rfl
theorem sk125_0 : seek p125_0 0 = p125_0 := rfl
theorem sk125_30 : seek p125_0 30 = p125_30 := rfl
theorem sk125_34 : seek p125_0 34 = p125_34 := rfl
theorem sk125_35 : seek p125_0 35 = p125_35 := rfl
theorem sk126_0 : seek p126_0 0 = p126_0 := rfl
theorem sk126_22 : seek p126_0 22 = p126_22 := rfl
theorem sk126_23 : seek p126_0 23 = p126_23 := rfl
theorem sk127_0 : seek p127_0 0 = p127_0 := rfl
theorem sk127_14 : seek p127_0 14 = p127_14 := rfl
theorem sk127_29 : seek p127_0 29 = p127_29 := rfl
theorem sk127_32 : seek p127_0 32 = p127_32 := rfl
theorem sk128_0 : seek p128_0 0 = p128_0 := rfl
theorem sk128_2 : seek p128_0 2 = p128_2 := rfl
theorem sk128_22 : seek p128_0 22 = p128_22 := rfl
theorem sk128_28 : seek p128_0 28 = p128_28 := rfl
theorem sk129_0 : seek p129_0 0 = p129_0 := rfl
theorem sk130_0 : seek p130_0 0 = p130_0 := rfl
theorem sk130_4 : seek p130_0 4 = p130_4 := rfl
theorem sk130_23 : seek p130_0 23 = p130_23 := rfl
theorem sk130_29 : seek p130_0 29 = p130_29 := rfl
theorem sk131_0 : seek p131_0 0 = p131_0 := rfl
theorem sk131_4 : seek p131_0 4 = p131_4 := rfl
theorem sk131_25 : seek p131_0 25 = p131_25 := rfl
theorem sk132_0 : seek p132_0 0 = p132_0 := rfl
theorem sk133_0 : seek p133_0 0 = p133_0 := rfl
theorem sk134_0 : seek p134_0 0 = p134_0 := rfl
theorem sk134_49 : seek p134_0 49 = p134_49 := rfl
theorem sk135_0 : seek p135_0 0 = p135_0 := rfl
theorem sk135_12 : seek p135_0 12 = p135_12 := rfl
theorem sk135_33 : seek p135_0 33 = p135_33 := rfl
theorem sk135_39 : seek p135_0 39 = p135_39 := rfl
theorem sk135_52 : seek p135_0 52 = p135_52 := rfl
theorem sk135_97 : seek p135_0 97 = p135_97 := rfl
theorem sk135_103 : seek p135_0 103 = p135_103 := rfl
theorem sk136_0 : seek p136_0 0 = p136_0 := rfl
theorem sk136_4 : seek p136_0 4 = p136_4 := rfl
theorem sk136_33 : seek p136_0 33 = p136_33 := rfl
theorem sk136_39 : seek p136_0 39 = p136_39 := rfl
theorem sk137_0 : seek p137_0 0 = p137_0 := rfl
theorem sk137_4 : seek p137_0 4 = p137_4 := rfl
theorem sk137_34 : seek p137_0 34 = p137_34 := rfl
theorem sk137_37 : seek p137_0 37 = p137_37 := rfl
theorem sk137_43 : seek p137_0 43 = p137_43 := rfl
theorem sk138_0 : seek p138_0 0 = p138_0 := rfl
theorem sk138_18 : seek p138_0 18 = p138_18 := rfl
theorem sk138_20 : seek p138_0 20 = p138_20 := rfl
theorem sk138_34 : seek p138_0 34 = p138_34 := rfl
theorem sk138_49 : seek p138_0 49 = p138_49 := rfl
theorem sk138_66 : seek p138_0 66 = p138_66 := rfl
theorem sk138_83 : seek p138_0 83 = p138_83 := rfl
theorem sk138_93 : seek p138_0 93 = p138_93 := rfl
theorem sk139_0 : seek p139_0 0 = p139_0 := rfl
theorem sk139_15 : seek p139_0 15 = p139_15 := rfl
theorem sk139_40 : seek p139_0 40 = p139_40 := rfl
theorem sk140_0 : seek p140_0 0 = p140_0 := rfl
theorem sk140_43 : seek p140_0 43 = p140_43 := rfl
theorem sk140_56 : seek p140_0 56 = p140_56 := rfl
theorem sk141_0 : seek p141_0 0 = p141_0 := rfl
theorem sk141_38 : seek p141_0 38 = p141_38 := rfl
theorem sk142_0 : seek p142_0 0 = p142_0 := rfl
theorem sk143_0 : seek p143_0 0 = p143_0 := rfl
theorem sk143_24 : seek p143_0 24 = p143_24 := rfl
theorem sk143_83 : seek p143_0 83 = p143_83 := rfl
theorem sk143_84 : seek p143_0 84 = p143_84 := rfl
theorem sk143_93 : seek p143_0 93 = p143_93 := rfl
theorem sk144_0 : seek p144_0 0 = p144_0 := rfl
theorem sk144_25 : seek p144_0 25 = p144_25 := rfl
theorem sk144_27 : seek p144_0 27 = p144_27 := rfl
theorem sk145_0 : seek p145_0 0 = p145_0 := rfl
theorem sk146_0 : seek p146_0 0 = p146_0 := rfl
theorem sk146_15 : seek p146_0 15 = p146_15 := rfl
theorem sk146_47 : seek p146_0 47 = p146_47 := rfl
theorem sk146_53 : seek p146_0 53 = p146_53 := rfl
theorem sk147_0 : seek p147_0 0 = p147_0 := rfl
theorem sk147_16 : seek p147_0 16 = p147_16 := rfl
theorem sk147_48 : seek p147_0 48 = p147_48 := rfl
theorem sk147_104 : seek p147_0 104 = p147_104 := rfl
theorem sk148_0 : seek p148_0 0 = p148_0 := rfl
theorem sk149_0 : seek p149_0 0 = p149_0 := rfl
theorem sk149_13 : seek p149_0 13 = p149_13 := rfl
theorem sk149_14 : seek p149_0 14 = p149_14 := rfl
theorem sk150_0 : seek p150_0 0 = p150_0 := rfl
theorem sk150_17 : seek p150_0 17 = p150_17 := rfl
theorem sk150_43 : seek p150_0 43 = p150_43 := rfl
theorem sk151_0 : seek p151_0 0 = p151_0 := rfl
theorem sk152_0 : seek p152_0 0 = p152_0 := rfl
theorem sk152_19 : seek p152_0 19 = p152_19 := rfl
theorem sk152_37 : seek p152_0 37 = p152_37 := rfl
theorem sk152_38 : seek p152_0 38 = p152_38 := rfl
theorem sk153_0 : seek p153_0 0 = p153_0 := rfl
theorem sk153_34 : seek p153_0 34 = p153_34 := rfl
theorem sk153_35 : seek p153_0 35 = p153_35 := rfl
theorem sk154_0 : seek p154_0 0 = p154_0 := rfl
theorem sk155_0 : seek p155_0 0 = p155_0 := rfl
theorem sk156_0 : seek p156_0 0 = p156_0 := rfl
theorem sk156_29 : seek p156_0 29 = p156_29 := rfl
theorem sk156_75 : seek p156_0 75 = p156_75 := rfl
theorem sk157_0 : seek p157_0 0 = p157_0 := rfl
theorem sk157_14 : seek p157_0 14 = p157_14 := rfl
theorem sk157_35 : seek p157_0 35 = p157_35 := rfl
theorem sk157_77 : seek p157_0 77 = p157_77 := rfl
theorem sk158_0 : seek p158_0 0 = p158_0 := rfl
theorem sk158_59 : seek p158_0 59 = p158_59 := rfl
theorem sk159_0 : seek p159_0 0 = p159_0 := rfl
theorem sk159_17 : seek p159_0 17 = p159_17 := rfl
theorem sk159_18 : seek p159_0 18 = p159_18 := rfl
theorem sk160_0 : seek p160_0 0 = p160_0 := rfl
theorem sk160_17 : seek p160_0 17 = p160_17 := rfl
theorem sk160_18 : seek p160_0 18 = p160_18 := rfl
theorem sk161_0 : seek p161_0 0 = p161_0 := rfl
theorem sk161_16 : seek p161_0 16 = p161_16 := rfl
theorem sk161_20 : seek p161_0 20 = p161_20 := rfl
theorem sk161_21 : seek p161_0 21 = p161_21 := rfl
theorem sk162_0 : seek p162_0 0 = p162_0 := rfl
theorem sk162_4 : seek p162_0 4 = p162_4 := rfl
theorem sk162_21 : seek p162_0 21 = p162_21 := rfl
theorem sk162_27 : seek p162_0 27 = p162_27 := rfl
theorem sk163_0 : seek p163_0 0 = p163_0 := rfl
theorem sk163_10 : seek p163_0 10 = p163_10 := rfl
theorem sk163_20 : seek p163_0 20 = p163_20 := rfl
theorem sk163_35 : seek p163_0 35 = p163_35 := rfl
theorem sk163_60 : seek p163_0 60 = p163_60 := rfl
theorem sk163_68 : seek p163_0 68 = p163_68 := rfl
theorem sk163_74 : seek p163_0 74 = p163_74 := rfl
theorem sk163_80 : seek p163_0 80 = p163_80 := rfl
theorem sk163_85 : seek p163_0 85 = p163_85 := rfl
theorem sk163_108 : seek p163_0 108 = p163_108 := rfl
theorem sk164_0 : seek p164_0 0 = p164_0 := rfl
theorem sk165_0 : seek p165_0 0 = p165_0 := rfl
theorem sk165_26 : seek p165_0 26 = p165_26 := rfl
theorem sk165_57 : seek p165_0 57 = p165_57 := rfl
theorem sk166_0 : seek p166_0 0 = p166_0 := rfl
theorem sk166_14 : seek p166_0 14 = p166_14 := rfl
theorem sk166_15 : seek p166_0 15 = p166_15 := rfl
theorem sk166_70 : seek p166_0 70 = p166_70 := rfl
theorem sk166_88 : seek p166_0 88 = p166_88 := rfl
theorem sk167_0 : seek p167_0 0 = p167_0 := rfl
theorem sk168_0 : seek p168_0 0 = p168_0 := rfl
theorem sk168_36 : seek p168_0 36 = p168_36 := rfl
theorem sk168_40 : seek p168_0 40 = p168_40 := rfl
theorem sk168_41 : seek p168_0 41 = p168_41 := rfl
theorem sk169_0 : seek p169_0 0 = p169_0 := rfl
theorem sk169_2 : seek p169_0 2 = p169_2 := rfl
theorem sk169_45 : seek p169_0 45 = p169_45 := rfl
theorem sk169_51 : seek p169_0 51 = p169_51 := rfl
theorem sk170_0 : seek p170_0 0 = p170_0 := rfl
theorem sk171_0 : seek p171_0 0 = p171_0 := rfl
theorem sk171_23 : seek p171_0 23 = p171_23 := rfl
theorem sk171_37 : seek p171_0 37 = p171_37 := rfl
theorem sk171_53 : seek p171_0 53 = p171_53 := rfl
theorem sk171_69 : seek p171_0 69 = p171_69 := rfl
theorem sk171_71 : seek p171_0 71 = p171_71 := rfl
theorem sk171_95 : seek p171_0 95 = p171_95 := rfl
theorem sk172_0 : seek p172_0 0 = p172_0 := rfl
theorem sk172_3 : seek p172_0 3 = p172_3 := rfl
theorem sk172_57 : seek p172_0 57 = p172_57 := rfl
theorem sk172_63 : seek p172_0 63 = p172_63 := rfl
theorem sk172_83 : seek p172_0 83 = p172_83 := rfl
theorem sk172_90 : seek p172_0 90 = p172_90 := rfl
theorem sk173_0 : seek p173_0 0 = p173_0 := rfl
theorem sk174_0 : seek p174_0 0 = p174_0 := rfl
theorem sk174_22 : seek p174_0 22 = p174_22 := rfl
theorem sk174_39 : seek p174_0 39 = p174_39 := rfl
theorem sk174_81 : seek p174_0 81 = p174_81 := rfl
theorem sk174_87 : seek p174_0 87 = p174_87 := rfl
theorem sk175_0 : seek p175_0 0 = p175_0 := rfl
theorem sk175_57 : seek p175_0 57 = p175_57 := rfl
theorem sk176_0 : seek p176_0 0 = p176_0 := rfl
theorem sk176_11 : seek p176_0 11 = p176_11 := rfl
theorem sk176_13 : seek p176_0 13 = p176_13 := rfl
theorem sk176_51 : seek p176_0 51 = p176_51 := rfl
theorem sk176_57 : seek p176_0 57 = p176_57 := rfl
theorem sk177_0 : seek p177_0 0 = p177_0 := rfl
theorem sk178_0 : seek p178_0 0 = p178_0 := rfl
theorem sk178_5 : seek p178_0 5 = p178_5 := rfl
theorem sk178_20 : seek p178_0 20 = p178_20 := rfl
