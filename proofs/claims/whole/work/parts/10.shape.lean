/-! THE SHAPE: the 262 cells of the class and of the reference, behind their constructors -/
def zshL : List zS := [
  ((0, 0, 0), .inl (9, [some (some 1), some (some 32), some (some 43), some (some 54), some (some 203), some (some 205), some (some 208), some (some 209), some (some 210), none, none])),
  ((10, 0, 0), .inl (6, [some (some 2), some (some 3)])),
  ((11, 0, 0), .inr (.inr (3, [some 4, some 6, some 8, some 10, some 12, some 14, some 16, some 18, some 20, some 22, some 24, some 26, some 28, some 30]))),
  ((12, 0, 0), .inr (.inl (0, 96))),
  ((8, 0, 0), .inl (5, [none, none, none, some (some 5)])),
  ((9, 0, 0), .inr (.inl (0, 96))),
  ((8, 1, 0), .inl (5, [none, none, none, some (some 7)])),
  ((9, 1, 0), .inr (.inl (0, 96))),
  ((8, 2, 0), .inl (5, [none, none, none, some (some 9)])),
  ((9, 2, 0), .inr (.inl (0, 96))),
  ((8, 3, 0), .inl (5, [none, none, none, some (some 11)])),
  ((9, 3, 0), .inr (.inl (0, 96))),
  ((8, 4, 0), .inl (5, [none, none, none, some (some 13)])),
  ((9, 4, 0), .inr (.inl (0, 96))),
  ((8, 5, 0), .inl (5, [none, none, none, some (some 15)])),
  ((9, 5, 0), .inr (.inl (0, 96))),
  ((8, 6, 0), .inl (5, [none, none, none, some (some 17)])),
  ((9, 6, 0), .inr (.inl (0, 96))),
  ((8, 7, 0), .inl (5, [none, none, none, some (some 19)])),
  ((9, 7, 0), .inr (.inl (0, 96))),
  ((8, 8, 0), .inl (5, [none, none, none, some (some 21)])),
  ((9, 8, 0), .inr (.inl (0, 96))),
  ((8, 9, 0), .inl (5, [none, none, none, some (some 23)])),
  ((9, 9, 0), .inr (.inl (0, 96))),
  ((8, 10, 0), .inl (5, [none, none, none, some (some 25)])),
  ((9, 10, 0), .inr (.inl (0, 96))),
  ((8, 11, 0), .inl (5, [none, none, none, some (some 27)])),
  ((9, 11, 0), .inr (.inl (0, 96))),
  ((8, 12, 0), .inl (5, [none, none, none, some (some 29)])),
  ((9, 12, 0), .inr (.inl (0, 96))),
  ((8, 13, 0), .inl (5, [none, none, none, some (some 31)])),
  ((9, 13, 0), .inr (.inl (0, 96))),
  ((5, 0, 0), .inl (8, [some (some 1), some (some 33), none, none, none, none, none, none, none, none, none, some (some 34)])),
  ((7, 0, 0), .inr (.inr (4, [some 35, some 36, some 37, some 38, some 39, some 40, some 41, some 42]))),
  ((6, 0, 0), .inr (.inl (0, 3))),
  ((1, 0, 0), .inl (0, [none, none, none, none, none, none, none])),
  ((1, 0, 1), .inl (0, [none, none, none, none, none, none, none])),
  ((1, 0, 2), .inl (0, [none, none, none, none, none, none, none])),
  ((1, 0, 3), .inl (0, [none, none, none, none, none, none, none])),
  ((1, 0, 4), .inl (0, [none, none, none, none, none, none, none])),
  ((1, 0, 5), .inl (0, [none, none, none, none, none, none, none])),
  ((1, 0, 6), .inl (0, [none, none, none, none, none, none, none])),
  ((1, 0, 7), .inl (0, [none, none, none, none, none, none, none])),
  ((5, 1, 0), .inl (8, [some (some 1), some (some 44), none, none, none, none, none, none, none, none, none, some (some 45)])),
  ((7, 1, 0), .inr (.inr (4, [some 46, some 47, some 48, some 49, some 50, some 51, some 52, some 53]))),
  ((6, 1, 0), .inr (.inl (0, 3))),
  ((1, 1, 0), .inl (0, [none, none, none, none, none, none, none])),
  ((1, 1, 1), .inl (0, [none, none, none, none, none, none, none])),
  ((1, 1, 2), .inl (0, [none, none, none, none, none, none, none])),
  ((1, 1, 3), .inl (0, [none, none, none, none, none, none, none])),
  ((1, 1, 4), .inl (0, [none, none, none, none, none, none, none])),
  ((1, 1, 5), .inl (0, [none, none, none, none, none, none, none])),
  ((1, 1, 6), .inl (0, [none, none, none, none, none, none, none])),
  ((1, 1, 7), .inl (0, [none, none, none, none, none, none, none])),
  ((13, 0, 0), .inl (7, [some (some 55), some (some 56), some (some 69), some (some 70)])),
  ((14, 0, 0), .inr (.inr (5, [some 71, some 82, some 93, some 104, some 115, some 126, some 137, some 148, some 159, some 170, some 181, some 192]))),
  ((15, 0, 0), .inr (.inr (6, [some 57, some 58, some 59, some 60, some 61, some 62, some 63, some 64, some 65, some 66, some 67, some 68]))),
  ((16, 0, 0), .inr (.inl (0, 100))),
  ((16, 1, 0), .inr (.inl (0, 100))),
  ((16, 2, 0), .inr (.inl (0, 100))),
  ((16, 3, 0), .inr (.inl (0, 100))),
  ((16, 4, 0), .inr (.inl (0, 100))),
  ((16, 5, 0), .inr (.inl (0, 100))),
  ((16, 6, 0), .inr (.inl (0, 100))),
  ((16, 7, 0), .inr (.inl (0, 100))),
  ((16, 8, 0), .inr (.inl (0, 100))),
  ((16, 9, 0), .inr (.inl (0, 100))),
  ((16, 10, 0), .inr (.inl (0, 100))),
  ((16, 11, 0), .inr (.inl (0, 100))),
  ((17, 0, 0), .inr (.inl (0, 12))),
  ((18, 0, 0), .inr (.inl (0, 100))),
  ((5, 2, 0), .inl (8, [some (some 1), some (some 72), none, none, none, none, none, none, none, none, none, some (some 73)])),
  ((7, 2, 0), .inr (.inr (4, [some 74, some 75, some 76, some 77, some 78, some 79, some 80, some 81]))),
  ((6, 2, 0), .inr (.inl (0, 3))),
  ((1, 2, 0), .inl (0, [none, none, none, none, none, none, none])),
  ((1, 2, 1), .inl (0, [none, none, none, none, none, none, none])),
  ((1, 2, 2), .inl (0, [none, none, none, none, none, none, none])),
  ((1, 2, 3), .inl (0, [none, none, none, none, none, none, none])),
  ((1, 2, 4), .inl (0, [none, none, none, none, none, none, none])),
  ((1, 2, 5), .inl (0, [none, none, none, none, none, none, none])),
  ((1, 2, 6), .inl (0, [none, none, none, none, none, none, none])),
  ((1, 2, 7), .inl (0, [none, none, none, none, none, none, none])),
  ((5, 3, 0), .inl (8, [some (some 1), some (some 83), none, none, none, none, none, none, none, none, none, some (some 84)])),
  ((7, 3, 0), .inr (.inr (4, [some 85, some 86, some 87, some 88, some 89, some 90, some 91, some 92]))),
  ((6, 3, 0), .inr (.inl (0, 3))),
  ((1, 3, 0), .inl (0, [none, none, none, none, none, none, none])),
  ((1, 3, 1), .inl (0, [none, none, none, none, none, none, none])),
  ((1, 3, 2), .inl (0, [none, none, none, none, none, none, none])),
  ((1, 3, 3), .inl (0, [none, none, none, none, none, none, none])),
  ((1, 3, 4), .inl (0, [none, none, none, none, none, none, none])),
  ((1, 3, 5), .inl (0, [none, none, none, none, none, none, none])),
  ((1, 3, 6), .inl (0, [none, none, none, none, none, none, none])),
  ((1, 3, 7), .inl (0, [none, none, none, none, none, none, none])),
  ((5, 4, 0), .inl (8, [some (some 1), some (some 94), none, none, none, none, none, none, none, none, none, some (some 95)])),
  ((7, 4, 0), .inr (.inr (4, [some 96, some 97, some 98, some 99, some 100, some 101, some 102, some 103]))),
  ((6, 4, 0), .inr (.inl (0, 3))),
  ((1, 4, 0), .inl (0, [none, none, none, none, none, none, none])),
  ((1, 4, 1), .inl (0, [none, none, none, none, none, none, none])),
  ((1, 4, 2), .inl (0, [none, none, none, none, none, none, none])),
  ((1, 4, 3), .inl (0, [none, none, none, none, none, none, none])),
  ((1, 4, 4), .inl (0, [none, none, none, none, none, none, none])),
  ((1, 4, 5), .inl (0, [none, none, none, none, none, none, none])),
  ((1, 4, 6), .inl (0, [none, none, none, none, none, none, none])),
  ((1, 4, 7), .inl (0, [none, none, none, none, none, none, none])),
  ((5, 5, 0), .inl (8, [some (some 1), some (some 105), none, none, none, none, none, none, none, none, none, some (some 106)])),
  ((7, 5, 0), .inr (.inr (4, [some 107, some 108, some 109, some 110, some 111, some 112, some 113, some 114]))),
  ((6, 5, 0), .inr (.inl (0, 3))),
  ((1, 5, 0), .inl (0, [none, none, none, none, none, none, none])),
  ((1, 5, 1), .inl (0, [none, none, none, none, none, none, none])),
  ((1, 5, 2), .inl (0, [none, none, none, none, none, none, none])),
  ((1, 5, 3), .inl (0, [none, none, none, none, none, none, none])),
  ((1, 5, 4), .inl (0, [none, none, none, none, none, none, none])),
  ((1, 5, 5), .inl (0, [none, none, none, none, none, none, none])),
  ((1, 5, 6), .inl (0, [none, none, none, none, none, none, none])),
  ((1, 5, 7), .inl (0, [none, none, none, none, none, none, none])),
  ((5, 6, 0), .inl (8, [some (some 1), some (some 116), none, none, none, none, none, none, none, none, none, some (some 117)])),
  ((7, 6, 0), .inr (.inr (4, [some 118, some 119, some 120, some 121, some 122, some 123, some 124, some 125]))),
  ((6, 6, 0), .inr (.inl (0, 3))),
  ((1, 6, 0), .inl (0, [none, none, none, none, none, none, none])),
  ((1, 6, 1), .inl (0, [none, none, none, none, none, none, none])),
  ((1, 6, 2), .inl (0, [none, none, none, none, none, none, none])),
  ((1, 6, 3), .inl (0, [none, none, none, none, none, none, none])),
  ((1, 6, 4), .inl (0, [none, none, none, none, none, none, none])),
  ((1, 6, 5), .inl (0, [none, none, none, none, none, none, none])),
  ((1, 6, 6), .inl (0, [none, none, none, none, none, none, none])),
  ((1, 6, 7), .inl (0, [none, none, none, none, none, none, none])),
  ((5, 7, 0), .inl (8, [some (some 1), some (some 127), none, none, none, none, none, none, none, none, none, some (some 128)])),
  ((7, 7, 0), .inr (.inr (4, [some 129, some 130, some 131, some 132, some 133, some 134, some 135, some 136]))),
  ((6, 7, 0), .inr (.inl (0, 3))),
  ((1, 7, 0), .inl (0, [none, none, none, none, none, none, none])),
  ((1, 7, 1), .inl (0, [none, none, none, none, none, none, none])),
  ((1, 7, 2), .inl (0, [none, none, none, none, none, none, none])),
  ((1, 7, 3), .inl (0, [none, none, none, none, none, none, none])),
  ((1, 7, 4), .inl (0, [none, none, none, none, none, none, none])),
  ((1, 7, 5), .inl (0, [none, none, none, none, none, none, none])),
  ((1, 7, 6), .inl (0, [none, none, none, none, none, none, none])),
  ((1, 7, 7), .inl (0, [none, none, none, none, none, none, none])),
  ((5, 8, 0), .inl (8, [some (some 1), some (some 138), none, none, none, none, none, none, none, none, none, some (some 139)])),
  ((7, 8, 0), .inr (.inr (4, [some 140, some 141, some 142, some 143, some 144, some 145, some 146, some 147]))),
  ((6, 8, 0), .inr (.inl (0, 3))),
  ((1, 8, 0), .inl (0, [none, none, none, none, none, none, none])),
  ((1, 8, 1), .inl (0, [none, none, none, none, none, none, none])),
  ((1, 8, 2), .inl (0, [none, none, none, none, none, none, none])),
  ((1, 8, 3), .inl (0, [none, none, none, none, none, none, none])),
  ((1, 8, 4), .inl (0, [none, none, none, none, none, none, none])),
  ((1, 8, 5), .inl (0, [none, none, none, none, none, none, none])),
  ((1, 8, 6), .inl (0, [none, none, none, none, none, none, none])),
  ((1, 8, 7), .inl (0, [none, none, none, none, none, none, none])),
  ((5, 9, 0), .inl (8, [some (some 1), some (some 149), none, none, none, none, none, none, none, none, none, some (some 150)])),
  ((7, 9, 0), .inr (.inr (4, [some 151, some 152, some 153, some 154, some 155, some 156, some 157, some 158]))),
  ((6, 9, 0), .inr (.inl (0, 3))),
  ((1, 9, 0), .inl (0, [none, none, none, none, none, none, none])),
  ((1, 9, 1), .inl (0, [none, none, none, none, none, none, none])),
  ((1, 9, 2), .inl (0, [none, none, none, none, none, none, none])),
  ((1, 9, 3), .inl (0, [none, none, none, none, none, none, none])),
  ((1, 9, 4), .inl (0, [none, none, none, none, none, none, none])),
  ((1, 9, 5), .inl (0, [none, none, none, none, none, none, none])),
  ((1, 9, 6), .inl (0, [none, none, none, none, none, none, none])),
  ((1, 9, 7), .inl (0, [none, none, none, none, none, none, none])),
  ((5, 10, 0), .inl (8, [some (some 1), some (some 160), none, none, none, none, none, none, none, none, none, some (some 161)])),
  ((7, 10, 0), .inr (.inr (4, [some 162, some 163, some 164, some 165, some 166, some 167, some 168, some 169]))),
  ((6, 10, 0), .inr (.inl (0, 3))),
  ((1, 10, 0), .inl (0, [none, none, none, none, none, none, none])),
  ((1, 10, 1), .inl (0, [none, none, none, none, none, none, none])),
  ((1, 10, 2), .inl (0, [none, none, none, none, none, none, none])),
  ((1, 10, 3), .inl (0, [none, none, none, none, none, none, none])),
  ((1, 10, 4), .inl (0, [none, none, none, none, none, none, none])),
  ((1, 10, 5), .inl (0, [none, none, none, none, none, none, none])),
  ((1, 10, 6), .inl (0, [none, none, none, none, none, none, none])),
  ((1, 10, 7), .inl (0, [none, none, none, none, none, none, none])),
  ((5, 11, 0), .inl (8, [some (some 1), some (some 171), none, none, none, none, none, none, none, none, none, some (some 172)])),
  ((7, 11, 0), .inr (.inr (4, [some 173, some 174, some 175, some 176, some 177, some 178, some 179, some 180]))),
  ((6, 11, 0), .inr (.inl (0, 3))),
  ((1, 11, 0), .inl (0, [none, none, none, none, none, none, none])),
  ((1, 11, 1), .inl (0, [none, none, none, none, none, none, none])),
  ((1, 11, 2), .inl (0, [none, none, none, none, none, none, none])),
  ((1, 11, 3), .inl (0, [none, none, none, none, none, none, none])),
  ((1, 11, 4), .inl (0, [none, none, none, none, none, none, none])),
  ((1, 11, 5), .inl (0, [none, none, none, none, none, none, none])),
  ((1, 11, 6), .inl (0, [none, none, none, none, none, none, none])),
  ((1, 11, 7), .inl (0, [none, none, none, none, none, none, none])),
  ((5, 12, 0), .inl (8, [some (some 1), some (some 182), none, none, none, none, none, none, none, none, none, some (some 183)])),
  ((7, 12, 0), .inr (.inr (4, [some 184, some 185, some 186, some 187, some 188, some 189, some 190, some 191]))),
  ((6, 12, 0), .inr (.inl (0, 3))),
  ((1, 12, 0), .inl (0, [none, none, none, none, none, none, none])),
  ((1, 12, 1), .inl (0, [none, none, none, none, none, none, none])),
  ((1, 12, 2), .inl (0, [none, none, none, none, none, none, none])),
  ((1, 12, 3), .inl (0, [none, none, none, none, none, none, none])),
  ((1, 12, 4), .inl (0, [none, none, none, none, none, none, none])),
  ((1, 12, 5), .inl (0, [none, none, none, none, none, none, none])),
  ((1, 12, 6), .inl (0, [none, none, none, none, none, none, none])),
  ((1, 12, 7), .inl (0, [none, none, none, none, none, none, none])),
  ((5, 13, 0), .inl (8, [some (some 1), some (some 193), none, none, none, none, none, none, none, none, none, some (some 194)])),
  ((7, 13, 0), .inr (.inr (4, [some 195, some 196, some 197, some 198, some 199, some 200, some 201, some 202]))),
  ((6, 13, 0), .inr (.inl (0, 3))),
  ((1, 13, 0), .inl (0, [none, none, none, none, none, none, none])),
  ((1, 13, 1), .inl (0, [none, none, none, none, none, none, none])),
  ((1, 13, 2), .inl (0, [none, none, none, none, none, none, none])),
  ((1, 13, 3), .inl (0, [none, none, none, none, none, none, none])),
  ((1, 13, 4), .inl (0, [none, none, none, none, none, none, none])),
  ((1, 13, 5), .inl (0, [none, none, none, none, none, none, none])),
  ((1, 13, 6), .inl (0, [none, none, none, none, none, none, none])),
  ((1, 13, 7), .inl (0, [none, none, none, none, none, none, none])),
  ((19, 0, 0), .inl (4, [some (some 204), none])),
  ((20, 0, 0), .inr (.inl (0, 96))),
  ((21, 0, 0), .inl (1, [some (some 203), some (some 206), none, none, none, none, none, none, none])),
  ((8, 14, 0), .inl (5, [none, none, none, some (some 207)])),
  ((9, 14, 0), .inr (.inl (0, 96))),
  ((22, 0, 0), .inr (.inr (7, [some 211, some 213, some 215, some 217]))),
  ((23, 0, 0), .inr (.inr (8, [some 219, some 223, some 227, some 231, some 235]))),
  ((24, 0, 0), .inr (.inl (0, 60))),
  ((3, 0, 0), .inl (2, [none, none, some (some 212)])),
  ((4, 0, 0), .inr (.inl (0, 24))),
  ((3, 1, 0), .inl (2, [none, none, some (some 214)])),
  ((4, 1, 0), .inr (.inl (0, 24))),
  ((3, 2, 0), .inl (2, [none, none, some (some 216)])),
  ((4, 2, 0), .inr (.inl (0, 24))),
  ((3, 3, 0), .inl (2, [none, none, some (some 218)])),
  ((4, 3, 0), .inr (.inl (0, 24))),
  ((25, 0, 0), .inl (3, [none, some (some 220), some (some 221), none])),
  ((1, 14, 0), .inl (0, [none, none, none, none, none, none, none])),
  ((3, 4, 0), .inl (2, [none, none, some (some 222)])),
  ((4, 4, 0), .inr (.inl (0, 24))),
  ((25, 1, 0), .inl (3, [none, some (some 224), some (some 225), none])),
  ((1, 15, 0), .inl (0, [none, none, none, none, none, none, none])),
  ((3, 5, 0), .inl (2, [none, none, some (some 226)])),
  ((4, 5, 0), .inr (.inl (0, 24))),
  ((25, 2, 0), .inl (3, [none, some (some 228), some (some 229), none])),
  ((1, 16, 0), .inl (0, [none, none, none, none, none, none, none])),
  ((3, 6, 0), .inl (2, [none, none, some (some 230)])),
  ((4, 6, 0), .inr (.inl (0, 24))),
  ((25, 3, 0), .inl (3, [none, some (some 232), some (some 233), none])),
  ((1, 17, 0), .inl (0, [none, none, none, none, none, none, none])),
  ((3, 7, 0), .inl (2, [none, none, some (some 234)])),
  ((4, 7, 0), .inr (.inl (0, 24))),
  ((25, 4, 0), .inl (3, [none, some (some 236), some (some 237), none])),
  ((1, 18, 0), .inl (0, [none, none, none, none, none, none, none])),
  ((3, 8, 0), .inl (2, [none, none, some (some 238)])),
  ((4, 8, 0), .inr (.inl (0, 24))),
  ((30, 0, 0), .inl (10, [some (some 240), some (some 241), some (some 242), none, some (some 243), some (some 244), some (some 245), none, none, none, none, none, none, none, some (some 246), some (some 247), some (some 248), none, none, some (some 249), none, some (some 250), some (some 251), some (some 252), some (some 253), some (some 254), some (some 255), some (some 256), some (some 257), some (some 258), some (some 259), some (some 260), some (some 261), none])),
  ((31, 0, 0), .inr (.inl (0, 1437))),
  ((32, 0, 0), .inr (.inl (0, 1437))),
  ((33, 0, 0), .inr (.inl (0, 1437))),
  ((34, 0, 0), .inr (.inl (0, 65))),
  ((35, 0, 0), .inr (.inl (0, 65))),
  ((36, 0, 0), .inr (.inl (0, 96))),
  ((37, 0, 0), .inr (.inl (2, 10))),
  ((38, 0, 0), .inr (.inl (0, 4))),
  ((39, 0, 0), .inr (.inl (0, 96))),
  ((40, 0, 0), .inr (.inl (0, 96))),
  ((41, 0, 0), .inr (.inl (1, 10))),
  ((42, 0, 0), .inr (.inl (0, 96))),
  ((43, 0, 0), .inr (.inl (0, 4))),
  ((44, 0, 0), .inr (.inl (0, 4))),
  ((45, 0, 0), .inr (.inl (0, 4))),
  ((46, 0, 0), .inr (.inl (0, 96))),
  ((47, 0, 0), .inr (.inl (0, 5))),
  ((48, 0, 0), .inr (.inl (0, 5))),
  ((49, 0, 0), .inr (.inl (0, 5))),
  ((50, 0, 0), .inr (.inl (0, 120))),
  ((51, 0, 0), .inr (.inl (0, 24))),
  ((52, 0, 0), .inr (.inl (0, 60)))]
def adW (w : Nat) : Nat := if w < 2 then 32 + 11 * w else 49 + 11 * w
def adT (t : Nat) : Nat := if t < 14 then 4 + 2 * t else 206
def adS (s : Nat) : Nat := if s < 4 then 211 + 2 * s else 205 + 4 * s
def adP (w i : Nat) : Nat := if w < 14 then adW w + 3 + i else 164 + 4 * w
set_option maxRecDepth 8000 in
theorem zshL_len : zshL.length = 262 := rfl
theorem shW {w : Nat} (h : w < 14) : zshL[adW w]? = some ((5, w, 0), .inl (8, [some (some 1), some (some (adW w + 1)), none, none, none, none, none, none, none, none, none, some (some (adW w + 2))])) := match w, h with
  | 0, _ => rfl
  | 1, _ => rfl
  | 2, _ => rfl
  | 3, _ => rfl
  | 4, _ => rfl
  | 5, _ => rfl
  | 6, _ => rfl
  | 7, _ => rfl
  | 8, _ => rfl
  | 9, _ => rfl
  | 10, _ => rfl
  | 11, _ => rfl
  | 12, _ => rfl
  | 13, _ => rfl
  | x + 14, h => absurd h (by omega)
theorem shPa {w : Nat} (h : w < 14) : zshL[adW w + 1]? = some ((7, w, 0), .inr (.inr (4, [some (adP w 0), some (adP w 1), some (adP w 2), some (adP w 3), some (adP w 4), some (adP w 5), some (adP w 6), some (adP w 7)]))) := match w, h with
  | 0, _ => rfl
  | 1, _ => rfl
  | 2, _ => rfl
  | 3, _ => rfl
  | 4, _ => rfl
  | 5, _ => rfl
  | 6, _ => rfl
  | 7, _ => rfl
  | 8, _ => rfl
  | 9, _ => rfl
  | 10, _ => rfl
  | 11, _ => rfl
  | 12, _ => rfl
  | 13, _ => rfl
  | x + 14, h => absurd h (by omega)
theorem shLw {w : Nat} (h : w < 14) : zshL[adW w + 2]? = some ((6, w, 0), .inr (.inl (0, 3))) := match w, h with
  | 0, _ => rfl
  | 1, _ => rfl
  | 2, _ => rfl
  | 3, _ => rfl
  | 4, _ => rfl
  | 5, _ => rfl
  | 6, _ => rfl
  | 7, _ => rfl
  | 8, _ => rfl
  | 9, _ => rfl
  | 10, _ => rfl
  | 11, _ => rfl
  | 12, _ => rfl
  | 13, _ => rfl
  | x + 14, h => absurd h (by omega)
def okP (w i : Nat) : Prop := (w < 14 ∧ i < 8) ∨ (14 ≤ w ∧ w < 19 ∧ i = 0)
theorem shP1_0 {i : Nat} (h : i < 8) : zshL[adP 0 i]? = some ((1, 0, i), .inl (0, [none, none, none, none, none, none, none])) := match i, h with
  | 0, _ => rfl
  | 1, _ => rfl
  | 2, _ => rfl
  | 3, _ => rfl
  | 4, _ => rfl
  | 5, _ => rfl
  | 6, _ => rfl
  | 7, _ => rfl
  | x + 8, h => absurd h (by omega)
theorem shP1_1 {i : Nat} (h : i < 8) : zshL[adP 1 i]? = some ((1, 1, i), .inl (0, [none, none, none, none, none, none, none])) := match i, h with
  | 0, _ => rfl
  | 1, _ => rfl
  | 2, _ => rfl
  | 3, _ => rfl
  | 4, _ => rfl
  | 5, _ => rfl
  | 6, _ => rfl
  | 7, _ => rfl
  | x + 8, h => absurd h (by omega)
theorem shP1_2 {i : Nat} (h : i < 8) : zshL[adP 2 i]? = some ((1, 2, i), .inl (0, [none, none, none, none, none, none, none])) := match i, h with
  | 0, _ => rfl
  | 1, _ => rfl
  | 2, _ => rfl
  | 3, _ => rfl
  | 4, _ => rfl
  | 5, _ => rfl
  | 6, _ => rfl
  | 7, _ => rfl
  | x + 8, h => absurd h (by omega)
theorem shP1_3 {i : Nat} (h : i < 8) : zshL[adP 3 i]? = some ((1, 3, i), .inl (0, [none, none, none, none, none, none, none])) := match i, h with
  | 0, _ => rfl
  | 1, _ => rfl
  | 2, _ => rfl
  | 3, _ => rfl
  | 4, _ => rfl
  | 5, _ => rfl
  | 6, _ => rfl
  | 7, _ => rfl
  | x + 8, h => absurd h (by omega)
theorem shP1_4 {i : Nat} (h : i < 8) : zshL[adP 4 i]? = some ((1, 4, i), .inl (0, [none, none, none, none, none, none, none])) := match i, h with
  | 0, _ => rfl
  | 1, _ => rfl
  | 2, _ => rfl
  | 3, _ => rfl
  | 4, _ => rfl
  | 5, _ => rfl
  | 6, _ => rfl
  | 7, _ => rfl
  | x + 8, h => absurd h (by omega)
theorem shP1_5 {i : Nat} (h : i < 8) : zshL[adP 5 i]? = some ((1, 5, i), .inl (0, [none, none, none, none, none, none, none])) := match i, h with
  | 0, _ => rfl
  | 1, _ => rfl
  | 2, _ => rfl
  | 3, _ => rfl
  | 4, _ => rfl
  | 5, _ => rfl
  | 6, _ => rfl
  | 7, _ => rfl
  | x + 8, h => absurd h (by omega)
theorem shP1_6 {i : Nat} (h : i < 8) : zshL[adP 6 i]? = some ((1, 6, i), .inl (0, [none, none, none, none, none, none, none])) := match i, h with
  | 0, _ => rfl
  | 1, _ => rfl
  | 2, _ => rfl
  | 3, _ => rfl
  | 4, _ => rfl
  | 5, _ => rfl
  | 6, _ => rfl
  | 7, _ => rfl
  | x + 8, h => absurd h (by omega)
theorem shP1_7 {i : Nat} (h : i < 8) : zshL[adP 7 i]? = some ((1, 7, i), .inl (0, [none, none, none, none, none, none, none])) := match i, h with
  | 0, _ => rfl
  | 1, _ => rfl
  | 2, _ => rfl
  | 3, _ => rfl
  | 4, _ => rfl
  | 5, _ => rfl
  | 6, _ => rfl
  | 7, _ => rfl
  | x + 8, h => absurd h (by omega)
theorem shP1_8 {i : Nat} (h : i < 8) : zshL[adP 8 i]? = some ((1, 8, i), .inl (0, [none, none, none, none, none, none, none])) := match i, h with
  | 0, _ => rfl
  | 1, _ => rfl
  | 2, _ => rfl
  | 3, _ => rfl
  | 4, _ => rfl
  | 5, _ => rfl
  | 6, _ => rfl
  | 7, _ => rfl
  | x + 8, h => absurd h (by omega)
theorem shP1_9 {i : Nat} (h : i < 8) : zshL[adP 9 i]? = some ((1, 9, i), .inl (0, [none, none, none, none, none, none, none])) := match i, h with
  | 0, _ => rfl
  | 1, _ => rfl
  | 2, _ => rfl
  | 3, _ => rfl
  | 4, _ => rfl
  | 5, _ => rfl
  | 6, _ => rfl
  | 7, _ => rfl
  | x + 8, h => absurd h (by omega)
theorem shP1_10 {i : Nat} (h : i < 8) : zshL[adP 10 i]? = some ((1, 10, i), .inl (0, [none, none, none, none, none, none, none])) := match i, h with
  | 0, _ => rfl
  | 1, _ => rfl
  | 2, _ => rfl
  | 3, _ => rfl
  | 4, _ => rfl
  | 5, _ => rfl
  | 6, _ => rfl
  | 7, _ => rfl
  | x + 8, h => absurd h (by omega)
theorem shP1_11 {i : Nat} (h : i < 8) : zshL[adP 11 i]? = some ((1, 11, i), .inl (0, [none, none, none, none, none, none, none])) := match i, h with
  | 0, _ => rfl
  | 1, _ => rfl
  | 2, _ => rfl
  | 3, _ => rfl
  | 4, _ => rfl
  | 5, _ => rfl
  | 6, _ => rfl
  | 7, _ => rfl
  | x + 8, h => absurd h (by omega)
theorem shP1_12 {i : Nat} (h : i < 8) : zshL[adP 12 i]? = some ((1, 12, i), .inl (0, [none, none, none, none, none, none, none])) := match i, h with
  | 0, _ => rfl
  | 1, _ => rfl
  | 2, _ => rfl
  | 3, _ => rfl
  | 4, _ => rfl
  | 5, _ => rfl
  | 6, _ => rfl
  | 7, _ => rfl
  | x + 8, h => absurd h (by omega)
theorem shP1_13 {i : Nat} (h : i < 8) : zshL[adP 13 i]? = some ((1, 13, i), .inl (0, [none, none, none, none, none, none, none])) := match i, h with
  | 0, _ => rfl
  | 1, _ => rfl
  | 2, _ => rfl
  | 3, _ => rfl
  | 4, _ => rfl
  | 5, _ => rfl
  | 6, _ => rfl
  | 7, _ => rfl
  | x + 8, h => absurd h (by omega)
theorem shP1 (w : Nat) (h : w < 14) (i : Nat) (hi : i < 8) : zshL[adP w i]? = some ((1, w, i), .inl (0, [none, none, none, none, none, none, none])) := match w, h with
  | 0, _ => shP1_0 hi
  | 1, _ => shP1_1 hi
  | 2, _ => shP1_2 hi
  | 3, _ => shP1_3 hi
  | 4, _ => shP1_4 hi
  | 5, _ => shP1_5 hi
  | 6, _ => shP1_6 hi
  | 7, _ => shP1_7 hi
  | 8, _ => shP1_8 hi
  | 9, _ => shP1_9 hi
  | 10, _ => shP1_10 hi
  | 11, _ => shP1_11 hi
  | 12, _ => shP1_12 hi
  | 13, _ => shP1_13 hi
  | x + 14, h => absurd h (by omega)
theorem shP2 (w : Nat) (h : w < 19) (h2 : 14 ≤ w) : zshL[adP w 0]? = some ((1, w, 0), .inl (0, [none, none, none, none, none, none, none])) := by
  rcases (show w = 14 ∨ w = 15 ∨ w = 16 ∨ w = 17 ∨ w = 18 by omega) with rfl | rfl | rfl | rfl | rfl <;> rfl
theorem shP {w i : Nat} (h : okP w i) : zshL[adP w i]? = some ((1, w, i), .inl (0, [none, none, none, none, none, none, none])) := by
  rcases h with h | ⟨h1, h2, rfl⟩
  · exact shP1 w h.1 i h.2
  · exact shP2 _ h2 h1
theorem shT {t : Nat} (h : t < 15) : zshL[adT t]? = some ((8, t, 0), .inl (5, [none, none, none, some (some (adT t + 1))])) := match t, h with
  | 0, _ => rfl
  | 1, _ => rfl
  | 2, _ => rfl
  | 3, _ => rfl
  | 4, _ => rfl
  | 5, _ => rfl
  | 6, _ => rfl
  | 7, _ => rfl
  | 8, _ => rfl
  | 9, _ => rfl
  | 10, _ => rfl
  | 11, _ => rfl
  | 12, _ => rfl
  | 13, _ => rfl
  | 14, _ => rfl
  | x + 15, h => absurd h (by omega)
theorem shC {t : Nat} (h : t < 15) : zshL[adT t + 1]? = some ((9, t, 0), .inr (.inl (0, 96))) := match t, h with
  | 0, _ => rfl
  | 1, _ => rfl
  | 2, _ => rfl
  | 3, _ => rfl
  | 4, _ => rfl
  | 5, _ => rfl
  | 6, _ => rfl
  | 7, _ => rfl
  | 8, _ => rfl
  | 9, _ => rfl
  | 10, _ => rfl
  | 11, _ => rfl
  | 12, _ => rfl
  | 13, _ => rfl
  | 14, _ => rfl
  | x + 15, h => absurd h (by omega)
theorem shS {s : Nat} (h : s < 9) : zshL[adS s]? = some ((3, s, 0), .inl (2, [none, none, some (some (adS s + 1))])) := match s, h with
  | 0, _ => rfl
  | 1, _ => rfl
  | 2, _ => rfl
  | 3, _ => rfl
  | 4, _ => rfl
  | 5, _ => rfl
  | 6, _ => rfl
  | 7, _ => rfl
  | 8, _ => rfl
  | x + 9, h => absurd h (by omega)
theorem shSp {s : Nat} (h : s < 9) : zshL[adS s + 1]? = some ((4, s, 0), .inr (.inl (0, 24))) := match s, h with
  | 0, _ => rfl
  | 1, _ => rfl
  | 2, _ => rfl
  | 3, _ => rfl
  | 4, _ => rfl
  | 5, _ => rfl
  | 6, _ => rfl
  | 7, _ => rfl
  | 8, _ => rfl
  | x + 9, h => absurd h (by omega)
theorem shL {s : Nat} (h : s < 5) : zshL[219 + 4 * s]? = some ((25, s, 0), .inl (3, [none, some (some (adP (14 + s) 0)), some (some (adS (4 + s))), none])) := match s, h with
  | 0, _ => rfl
  | 1, _ => rfl
  | 2, _ => rfl
  | 3, _ => rfl
  | 4, _ => rfl
  | x + 5, h => absurd h (by omega)
theorem shG {s : Nat} (h : s < 12) : zshL[57 + s]? = some ((16, s, 0), .inr (.inl (0, 100))) := match s, h with
  | 0, _ => rfl
  | 1, _ => rfl
  | 2, _ => rfl
  | 3, _ => rfl
  | 4, _ => rfl
  | 5, _ => rfl
  | 6, _ => rfl
  | 7, _ => rfl
  | 8, _ => rfl
  | 9, _ => rfl
  | 10, _ => rfl
  | 11, _ => rfl
  | x + 12, h => absurd h (by omega)
set_option maxRecDepth 8000 in
theorem sh_0 : zshL[0]? = some (((0, 0, 0), .inl (9, [some (some 1), some (some 32), some (some 43), some (some 54), some (some 203), some (some 205), some (some 208), some (some 209), some (some 210), none, none]))) := rfl
set_option maxRecDepth 8000 in
theorem sh_1 : zshL[1]? = some (((10, 0, 0), .inl (6, [some (some 2), some (some 3)]))) := rfl
set_option maxRecDepth 8000 in
theorem sh_2 : zshL[2]? = some (((11, 0, 0), .inr (.inr (3, [some 4, some 6, some 8, some 10, some 12, some 14, some 16, some 18, some 20, some 22, some 24, some 26, some 28, some 30])))) := rfl
set_option maxRecDepth 8000 in
theorem sh_3 : zshL[3]? = some (((12, 0, 0), .inr (.inl (0, 96)))) := rfl
set_option maxRecDepth 8000 in
theorem sh_54 : zshL[54]? = some (((13, 0, 0), .inl (7, [some (some 55), some (some 56), some (some 69), some (some 70)]))) := rfl
set_option maxRecDepth 8000 in
theorem sh_55 : zshL[55]? = some (((14, 0, 0), .inr (.inr (5, [some 71, some 82, some 93, some 104, some 115, some 126, some 137, some 148, some 159, some 170, some 181, some 192])))) := rfl
set_option maxRecDepth 8000 in
theorem sh_56 : zshL[56]? = some (((15, 0, 0), .inr (.inr (6, [some 57, some 58, some 59, some 60, some 61, some 62, some 63, some 64, some 65, some 66, some 67, some 68])))) := rfl
set_option maxRecDepth 8000 in
theorem sh_69 : zshL[69]? = some (((17, 0, 0), .inr (.inl (0, 12)))) := rfl
set_option maxRecDepth 8000 in
theorem sh_70 : zshL[70]? = some (((18, 0, 0), .inr (.inl (0, 100)))) := rfl
set_option maxRecDepth 8000 in
theorem sh_203 : zshL[203]? = some (((19, 0, 0), .inl (4, [some (some 204), none]))) := rfl
set_option maxRecDepth 8000 in
theorem sh_204 : zshL[204]? = some (((20, 0, 0), .inr (.inl (0, 96)))) := rfl
set_option maxRecDepth 8000 in
theorem sh_205 : zshL[205]? = some (((21, 0, 0), .inl (1, [some (some 203), some (some 206), none, none, none, none, none, none, none]))) := rfl
set_option maxRecDepth 8000 in
theorem sh_208 : zshL[208]? = some (((22, 0, 0), .inr (.inr (7, [some 211, some 213, some 215, some 217])))) := rfl
set_option maxRecDepth 8000 in
theorem sh_209 : zshL[209]? = some (((23, 0, 0), .inr (.inr (8, [some 219, some 223, some 227, some 231, some 235])))) := rfl
set_option maxRecDepth 8000 in
theorem sh_210 : zshL[210]? = some (((24, 0, 0), .inr (.inl (0, 60)))) := rfl
set_option maxRecDepth 8000 in
theorem sh_239 : zshL[239]? = some (((30, 0, 0), .inl (10, [some (some 240), some (some 241), some (some 242), none, some (some 243), some (some 244), some (some 245), none, none, none, none, none, none, none, some (some 246), some (some 247), some (some 248), none, none, some (some 249), none, some (some 250), some (some 251), some (some 252), some (some 253), some (some 254), some (some 255), some (some 256), some (some 257), some (some 258), some (some 259), some (some 260), some (some 261), none]))) := rfl
set_option maxRecDepth 8000 in
theorem sh_240 : zshL[240]? = some (((31, 0, 0), .inr (.inl (0, 1437)))) := rfl
set_option maxRecDepth 8000 in
theorem sh_241 : zshL[241]? = some (((32, 0, 0), .inr (.inl (0, 1437)))) := rfl
set_option maxRecDepth 8000 in
theorem sh_242 : zshL[242]? = some (((33, 0, 0), .inr (.inl (0, 1437)))) := rfl
set_option maxRecDepth 8000 in
theorem sh_243 : zshL[243]? = some (((34, 0, 0), .inr (.inl (0, 65)))) := rfl
set_option maxRecDepth 8000 in
theorem sh_244 : zshL[244]? = some (((35, 0, 0), .inr (.inl (0, 65)))) := rfl
set_option maxRecDepth 8000 in
theorem sh_245 : zshL[245]? = some (((36, 0, 0), .inr (.inl (0, 96)))) := rfl
set_option maxRecDepth 8000 in
theorem sh_246 : zshL[246]? = some (((37, 0, 0), .inr (.inl (2, 10)))) := rfl
set_option maxRecDepth 8000 in
theorem sh_247 : zshL[247]? = some (((38, 0, 0), .inr (.inl (0, 4)))) := rfl
set_option maxRecDepth 8000 in
theorem sh_248 : zshL[248]? = some (((39, 0, 0), .inr (.inl (0, 96)))) := rfl
set_option maxRecDepth 8000 in
theorem sh_249 : zshL[249]? = some (((40, 0, 0), .inr (.inl (0, 96)))) := rfl
set_option maxRecDepth 8000 in
theorem sh_250 : zshL[250]? = some (((41, 0, 0), .inr (.inl (1, 10)))) := rfl
set_option maxRecDepth 8000 in
theorem sh_251 : zshL[251]? = some (((42, 0, 0), .inr (.inl (0, 96)))) := rfl
set_option maxRecDepth 8000 in
theorem sh_252 : zshL[252]? = some (((43, 0, 0), .inr (.inl (0, 4)))) := rfl
set_option maxRecDepth 8000 in
theorem sh_253 : zshL[253]? = some (((44, 0, 0), .inr (.inl (0, 4)))) := rfl
set_option maxRecDepth 8000 in
theorem sh_254 : zshL[254]? = some (((45, 0, 0), .inr (.inl (0, 4)))) := rfl
set_option maxRecDepth 8000 in
theorem sh_255 : zshL[255]? = some (((46, 0, 0), .inr (.inl (0, 96)))) := rfl
set_option maxRecDepth 8000 in
theorem sh_256 : zshL[256]? = some (((47, 0, 0), .inr (.inl (0, 5)))) := rfl
set_option maxRecDepth 8000 in
theorem sh_257 : zshL[257]? = some (((48, 0, 0), .inr (.inl (0, 5)))) := rfl
set_option maxRecDepth 8000 in
theorem sh_258 : zshL[258]? = some (((49, 0, 0), .inr (.inl (0, 5)))) := rfl
set_option maxRecDepth 8000 in
theorem sh_259 : zshL[259]? = some (((50, 0, 0), .inr (.inl (0, 120)))) := rfl
set_option maxRecDepth 8000 in
theorem sh_260 : zshL[260]? = some (((51, 0, 0), .inr (.inl (0, 24)))) := rfl
set_option maxRecDepth 8000 in
theorem sh_261 : zshL[261]? = some (((52, 0, 0), .inr (.inl (0, 60)))) := rfl
