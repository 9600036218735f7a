def kLF_0 : List (Nat × Nat × Nat × List (Nat × Nat)) := [(1, 9, 0, [(1, 2)]), (1, 31, 1, [(1, 0)]), (1, 34, 2, [(1, 0)]), (1, 37, 3, [(1, 0)]), (1, 40, 4, [(1, 0)]), (1, 43, 5, [(1, 0)]), (1, 15, 6, [(1, 0)]), (1, 46, 7, [(1, 0)]), (1, 49, 8, [(1, 0)]), (1, 19, 9, [(1, 0)]), (1, 52, 10, [(1, 2)]), (1, 56, 11, [(1, 2)]), (1, 64, 0, [(7, 0)]), (1, 139, 4, [(9, 0)]), (1, 142, 0, [(9, 2)]), (1, 152, 1, [(9, 2)]), (1, 22, 12, [(1, 2)]), (1, 158, 2, [(9, 2)]), (1, 161, 3, [(9, 2)]), (2, 20, 3, [(2, 0)]), (4, 13, 3, [(4, 0)]), (4, 24, 4, [(4, 0)]), (5, 11, 0, [(5, 2)]), (5, 31, 6, [(1, 0)]), (5, 35, 7, [(1, 0)]), (5, 41, 3, [(5, 0)]), (5, 82, 1, [(1, 0)]), (5, 17, 1, [(5, 2)]), (5, 64, 8, [(5, 0)]), (5, 58, 6, [(5, 0)]), (5, 61, 7, [(5, 0)]), (5, 52, 4, [(5, 0)]), (5, 21, 2, [(5, 2)]), (5, 55, 5, [(5, 0)]), (5, 100, 9, [(5, 0)]), (6, 22, 1, [(6, 0)]), (6, 9, 0, [(6, 2)]), (6, 26, 4, [(6, 0)]), (6, 19, 3, [(6, 2)]), (6, 15, 2, [(6, 2)]), (6, 33, 5, [(6, 0)]), (6, 36, 6, [(6, 0)]), (8, 17, 3, [(2, 0), (8, 0)]), (9, 30, 5, [(9, 0)]), (9, 27, 3, [(9, 2)]), (9, 34, 4, [(9, 0)]), (9, 11, 0, [(9, 2)]), (9, 15, 1, [(9, 2)]), (9, 18, 2, [(9, 2)]), (12, 19, 2, [(0, 1), (2, 1), (3, 1), (4, 1), (8, 1)]), (12, 15, 1, [(0, 0), (2, 0), (3, 0), (4, 0), (8, 0)]), (12, 9, 0, [(0, 2), (2, 2), (3, 2), (4, 2), (8, 2)]), (12, 23, 3, [(0, 0), (2, 0), (3, 0), (4, 0), (8, 0)]), (12, 26, 4, [(0, 0), (2, 0), (3, 0), (4, 0), (8, 0)]), (10, 41, 8, [(10, 2)]), (10, 51, 11, [(10, 2)]), (10, 62, 14, [(10, 2)]), (10, 10, 0, [(10, 2)]), (10, 94, 1, [(1, 0)]), (10, 153, 7, [(1, 0)])]
def kLF_1 : List (Nat × Nat × Nat × List (Nat × Nat)) := [(10, 156, 6, [(1, 0)]), (10, 159, 2, [(1, 0)]), (10, 162, 3, [(1, 0)]), (10, 165, 4, [(1, 0)]), (10, 168, 5, [(1, 0)]), (10, 177, 8, [(1, 0)]), (10, 32, 5, [(10, 2)]), (10, 188, 1, [(6, 0)]), (10, 214, 4, [(9, 0)]), (10, 19, 2, [(10, 2)]), (10, 25, 3, [(10, 2)]), (10, 264, 4, [(5, 0)]), (10, 267, 3, [(5, 0)]), (10, 270, 2, [(5, 2)]), (10, 273, 5, [(5, 0)]), (10, 276, 7, [(5, 0)]), (10, 279, 8, [(5, 0)]), (10, 289, 9, [(5, 0)]), (10, 297, 11, [(1, 2)]), (10, 316, 1, [(7, 0)]), (10, 319, 2, [(7, 0)]), (10, 322, 3, [(7, 0)]), (10, 323, 0, [(7, 0)]), (10, 326, 4, [(7, 2)]), (10, 332, 9, [(1, 0)]), (10, 341, 7, [(10, 0)]), (10, 38, 6, [(10, 2)]), (10, 45, 9, [(10, 2)]), (10, 48, 10, [(10, 2)]), (10, 54, 12, [(10, 2)]), (10, 57, 13, [(10, 2)]), (10, 380, 15, [(10, 2)]), (10, 400, 2, [(0, 1), (2, 1), (3, 1), (4, 1), (8, 1)]), (10, 407, 0, [(0, 2), (2, 2), (3, 2), (4, 2), (8, 2)]), (10, 210, 10, [(1, 2)]), (10, 410, 1, [(0, 0), (2, 0), (3, 0), (4, 0), (8, 0)]), (10, 16, 1, [(10, 2)]), (10, 413, 4, [(10, 1)]), (11, 9, 0, [(11, 2)]), (11, 16, 2, [(11, 2)]), (11, 128, 5, [(11, 0)]), (11, 19, 4, [(11, 2)]), (11, 137, 7, [(11, 0)]), (11, 140, 8, [(11, 0)]), (11, 149, 9, [(11, 0)]), (11, 161, 10, [(11, 1)]), (11, 152, 6, [(11, 0)]), (11, 168, 12, [(11, 0)]), (11, 174, 11, [(11, 0)]), (11, 22, 13, [(11, 2)]), (11, 256, 16, [(11, 0)]), (11, 262, 17, [(11, 0)]), (11, 265, 15, [(11, 0)]), (11, 250, 14, [(11, 0)]), (11, 26, 18, [(11, 2)]), (11, 29, 19, [(11, 2)]), (11, 32, 21, [(11, 2)]), (11, 288, 20, [(11, 0)]), (11, 35, 22, [(11, 2)]), (11, 38, 23, [(11, 2)])]
def kLF_2 : List (Nat × Nat × Nat × List (Nat × Nat)) := [(11, 41, 24, [(11, 2)]), (11, 45, 25, [(11, 2)]), (11, 48, 26, [(11, 2)]), (11, 51, 27, [(11, 2)]), (11, 304, 29, [(11, 0)]), (11, 54, 28, [(11, 2)]), (11, 319, 30, [(11, 1)]), (11, 13, 1, [(11, 2)]), (11, 340, 3, [(11, 1)]), (15, 9, 0, [(31, 2)]), (15, 15, 1, [(31, 0)])]
def kLF : List (Nat × Nat × Nat × List (Nat × Nat)) := kLF_0 ++ kLF_1 ++ kLF_2
def kLP_0 : List (Nat × Nat × Nat × List (Nat × Nat) × Nat) := [(1, 9, 0, [(1, 2)], 1), (1, 15, 6, [(1, 0)], 0), (1, 19, 9, [(1, 0)], 0), (1, 22, 12, [(1, 2)], 1), (1, 31, 1, [(1, 0)], 0), (1, 34, 2, [(1, 0)], 0), (1, 37, 3, [(1, 0)], 0), (1, 40, 4, [(1, 0)], 0), (1, 43, 5, [(1, 0)], 0), (1, 46, 7, [(1, 0)], 0), (1, 49, 8, [(1, 0)], 0), (1, 52, 10, [(1, 2)], 0), (1, 56, 11, [(1, 2)], 0), (5, 11, 0, [(5, 2)], 1), (5, 17, 1, [(5, 2)], 1), (5, 21, 2, [(5, 2)], 1), (5, 41, 3, [(5, 0)], 0), (5, 52, 4, [(5, 0)], 0), (5, 55, 5, [(5, 0)], 0), (5, 58, 6, [(5, 0)], 0), (5, 61, 7, [(5, 0)], 0), (5, 64, 8, [(5, 0)], 0), (5, 100, 9, [(5, 0)], 0), (6, 9, 0, [(6, 2)], 1), (6, 15, 2, [(6, 2)], 1), (6, 19, 3, [(6, 2)], 1), (6, 22, 1, [(6, 0)], 0), (6, 26, 4, [(6, 0)], 0), (6, 33, 5, [(6, 0)], 0), (6, 36, 6, [(6, 0)], 0), (7, 7, 0, [(7, 0)], 1), (7, 13, 1, [(7, 0)], 1), (7, 16, 2, [(7, 0)], 1), (7, 19, 3, [(7, 0)], 1), (7, 22, 4, [(7, 2)], 1), (9, 11, 0, [(9, 2)], 1), (9, 15, 1, [(9, 2)], 1), (9, 18, 2, [(9, 2)], 1), (9, 27, 3, [(9, 2)], 1), (9, 30, 5, [(9, 0)], 0), (9, 34, 4, [(9, 0)], 0), (12, 9, 0, [(0, 2), (2, 2), (3, 2), (4, 2), (8, 2)], 1), (12, 15, 1, [(0, 0), (2, 0), (3, 0), (4, 0), (8, 0)], 0), (12, 19, 2, [(0, 1), (2, 1), (3, 1), (4, 1), (8, 1)], 0), (12, 23, 3, [(0, 0), (2, 0), (3, 0), (4, 0), (8, 0)], 0), (12, 26, 4, [(0, 0), (2, 0), (3, 0), (4, 0), (8, 0)], 0), (10, 10, 0, [(10, 2)], 1), (10, 16, 1, [(10, 2)], 1), (10, 19, 2, [(10, 2)], 1), (10, 25, 3, [(10, 2)], 1), (10, 32, 5, [(10, 2)], 1), (10, 38, 6, [(10, 2)], 1), (10, 41, 8, [(10, 2)], 1), (10, 45, 9, [(10, 2)], 1), (10, 48, 10, [(10, 2)], 1), (10, 51, 11, [(10, 2)], 1), (10, 54, 12, [(10, 2)], 1), (10, 57, 13, [(10, 2)], 1), (10, 62, 14, [(10, 2)], 1), (10, 156, 6, [(1, 0)], 0)]
def kLP_1 : List (Nat × Nat × Nat × List (Nat × Nat) × Nat) := [(10, 159, 2, [(1, 0)], 0), (10, 162, 3, [(1, 0)], 0), (10, 165, 4, [(1, 0)], 0), (10, 168, 5, [(1, 0)], 0), (10, 153, 7, [(1, 0)], 0), (10, 177, 8, [(1, 0)], 0), (10, 210, 10, [(1, 2)], 0), (10, 297, 11, [(1, 2)], 0), (10, 332, 9, [(1, 0)], 0), (10, 341, 7, [(10, 0)], 0), (10, 380, 15, [(10, 2)], 0), (10, 413, 4, [(10, 1)], 0), (11, 9, 0, [(11, 2)], 1), (11, 13, 1, [(11, 2)], 1), (11, 16, 2, [(11, 2)], 1), (11, 19, 4, [(11, 2)], 1), (11, 22, 13, [(11, 2)], 1), (11, 26, 18, [(11, 2)], 1), (11, 29, 19, [(11, 2)], 1), (11, 32, 21, [(11, 2)], 1), (11, 35, 22, [(11, 2)], 1), (11, 38, 23, [(11, 2)], 1), (11, 41, 24, [(11, 2)], 1), (11, 45, 25, [(11, 2)], 1), (11, 48, 26, [(11, 2)], 1), (11, 51, 27, [(11, 2)], 1), (11, 54, 28, [(11, 2)], 1), (11, 128, 5, [(11, 0)], 0), (11, 140, 8, [(11, 0)], 0), (11, 137, 7, [(11, 0)], 0), (11, 149, 9, [(11, 0)], 0), (11, 152, 6, [(11, 0)], 0), (11, 168, 12, [(11, 0)], 0), (11, 161, 10, [(11, 1)], 0), (11, 174, 11, [(11, 0)], 0), (11, 250, 14, [(11, 0)], 0), (11, 256, 16, [(11, 0)], 0), (11, 262, 17, [(11, 0)], 0), (11, 265, 15, [(11, 0)], 0), (11, 288, 20, [(11, 0)], 0), (11, 304, 29, [(11, 0)], 0), (11, 319, 30, [(11, 1)], 0), (11, 340, 3, [(11, 1)], 0)]
def kLP : List (Nat × Nat × Nat × List (Nat × Nat) × Nat) := kLP_0 ++ kLP_1
def kLC_0 : List (Nat × Nat × Nat × Nat × List (Nat × Nat)) := [(0, 2, 1, 1, [(95, 80)]), (0, 1, 7, 2, [(0, 82)]), (0, 2, 13, 2, [(0, 83)]), (1, 2, 3, 1, [(97, 0)]), (1, 0, 25, 5, [(98, 0)]), (1, 1, 60, 4, [(1, 6)]), (1, 1, 69, 1, [(1, 14)]), (1, 1, 72, 2, [(1, 15)]), (1, 0, 76, 1, [(99, 289)]), (1, 1, 81, 1, [(1, 8)]), (1, 1, 85, 1, [(1, 9)]), (1, 1, 89, 2, [(1, 10)]), (1, 1, 93, 1, [(1, 12)]), (1, 1, 96, 3, [(1, 5)]), (1, 0, 100, 2, [(99, 27)]), (1, 0, 103, 2, [(99, 28)]), (1, 0, 106, 1, [(99, 33)]), (1, 0, 109, 2, [(99, 30)]), (1, 1, 112, 2, [(1, 17)]), (1, 1, 115, 3, [(1, 16)]), (1, 1, 119, 1, [(1, 21)]), (1, 0, 122, 2, [(99, 31)]), (1, 0, 125, 2, [(99, 29)]), (1, 0, 128, 1, [(99, 34)]), (1, 0, 132, 1, [(99, 32)]), (1, 1, 135, 2, [(1, 18)]), (1, 0, 145, 2, [(99, 35)]), (1, 1, 149, 2, [(1, 19)]), (1, 1, 155, 2, [(9, 79)]), (1, 1, 164, 2, [(1, 20)]), (1, 0, 167, 3, [(99, 77)]), (1, 0, 170, 2, [(99, 22)]), (1, 0, 173, 1, [(99, 23)]), (1, 0, 176, 1, [(99, 24)]), (1, 0, 179, 3, [(99, 25)]), (2, 2, 1, 1, [(95, 72)]), (2, 1, 7, 2, [(2, 82)]), (2, 2, 13, 2, [(2, 84)]), (2, 2, 17, 2, [(2, 73)]), (2, 1, 24, 2, [(2, 83)]), (3, 2, 1, 1, [(95, 80)]), (3, 1, 7, 2, [(3, 82), (4, 82)]), (3, 2, 13, 2, [(3, 84), (4, 84)]), (4, 2, 1, 1, [(95, 39)]), (4, 1, 7, 2, [(4, 82)]), (4, 2, 17, 2, [(4, 83)]), (4, 2, 21, 2, [(4, 86)]), (4, 1, 27, 2, [(4, 40)]), (5, 2, 3, 1, [(97, 0)]), (5, 2, 24, 1, [(95, 2)]), (5, 0, 25, 2, [(94, 1)]), (5, 0, 38, 2, [(94, 0)]), (5, 1, 44, 2, [(1, 3)]), (5, 1, 48, 3, [(5, 45)]), (5, 1, 67, 1, [(1, 21)]), (5, 1, 71, 5, [(5, 47)]), (5, 1, 75, 4, [(5, 48)]), (5, 1, 79, 1, [(1, 14)]), (5, 1, 85, 2, [(1, 15)]), (5, 0, 89, 1, [(99, 289)])]
def kLC_1 : List (Nat × Nat × Nat × Nat × List (Nat × Nat)) := [(5, 0, 94, 5, [(98, 0)]), (5, 1, 103, 2, [(5, 50)]), (6, 2, 3, 1, [(97, 0)]), (6, 1, 29, 1, [(6, 54)]), (6, 0, 39, 1, [(99, 58)]), (6, 1, 43, 1, [(6, 55)]), (6, 0, 46, 1, [(99, 59)]), (6, 1, 49, 1, [(6, 56)]), (6, 0, 52, 1, [(99, 60)]), (6, 1, 56, 3, [(6, 57)]), (6, 1, 62, 1, [(31, 292)]), (6, 1, 67, 2, [(31, 293)]), (6, 1, 71, 2, [(6, 64)]), (6, 1, 75, 1, [(6, 62)]), (6, 1, 78, 3, [(6, 65)]), (6, 1, 82, 3, [(9, 78)]), (6, 1, 88, 3, [(6, 66)]), (6, 1, 91, 2, [(9, 75)]), (6, 1, 95, 3, [(6, 67)]), (6, 1, 98, 3, [(6, 68)]), (6, 1, 101, 2, [(6, 69)]), (6, 1, 104, 1, [(6, 70)]), (6, 0, 107, 3, [(99, 76)]), (7, 2, 1, 1, [(97, 0)]), (8, 2, 1, 1, [(95, 80)]), (8, 1, 7, 2, [(2, 82), (8, 82)]), (8, 2, 13, 2, [(2, 85), (8, 85)]), (9, 2, 5, 1, [(97, 0)]), (9, 0, 21, 2, [(94, 0)]), (12, 2, 3, 1, [(97, 0)]), (12, 1, 29, 2, [(0, 82), (2, 82), (3, 82), (4, 82), (8, 82)]), (12, 1, 33, 2, [(0, 1), (2, 83), (3, 83), (4, 42), (8, 83)]), (12, 1, 37, 2, [(0, 84), (2, 37), (3, 40), (4, 40), (8, 84)]), (12, 1, 40, 2, [(0, 85), (2, 38), (3, 85), (4, 85), (8, 73)]), (10, 2, 1, 1, [(97, 0)]), (10, 2, 9, 1, [(95, 2)]), (10, 2, 24, 1, [(95, 44)]), (10, 2, 31, 1, [(95, 51)]), (10, 2, 68, 1, [(95, 0)]), (10, 2, 71, 1, [(95, 39)]), (10, 2, 74, 1, [(95, 41)]), (10, 2, 77, 1, [(95, 72)]), (10, 2, 80, 1, [(95, 36)]), (10, 0, 81, 1, [(99, 103)]), (10, 0, 85, 1, [(99, 104)]), (10, 0, 88, 1, [(99, 105)]), (10, 0, 91, 1, [(99, 106)]), (10, 1, 98, 5, [(1, 4)]), (10, 1, 102, 2, [(10, 101)]), (10, 1, 105, 3, [(1, 5)]), (10, 0, 109, 2, [(99, 31)]), (10, 0, 112, 1, [(99, 32)]), (10, 0, 116, 1, [(99, 33)]), (10, 0, 119, 1, [(99, 34)]), (10, 1, 122, 2, [(1, 17)]), (10, 0, 125, 2, [(99, 108)]), (10, 1, 129, 4, [(1, 6)]), (10, 1, 133, 2, [(10, 93)]), (10, 1, 136, 2, [(10, 94)]), (10, 0, 140, 2, [(99, 107)])]
def kLC_2 : List (Nat × Nat × Nat × Nat × List (Nat × Nat)) := [(10, 1, 143, 2, [(10, 95)]), (10, 1, 146, 2, [(10, 96)]), (10, 1, 150, 2, [(10, 97)]), (10, 0, 171, 2, [(99, 27)]), (10, 0, 174, 2, [(99, 28)]), (10, 1, 180, 1, [(1, 8)]), (10, 1, 184, 1, [(1, 21)]), (10, 1, 191, 2, [(6, 52)]), (10, 2, 197, 2, [(95, 74)]), (10, 1, 200, 1, [(6, 53)]), (10, 1, 203, 2, [(6, 63)]), (10, 1, 207, 1, [(6, 61)]), (10, 1, 215, 1, [(1, 9)]), (10, 1, 218, 2, [(1, 10)]), (10, 1, 221, 2, [(1, 3)]), (10, 1, 225, 2, [(1, 11)]), (10, 0, 228, 2, [(99, 117)]), (10, 1, 231, 4, [(10, 116)]), (10, 1, 234, 2, [(10, 119)]), (10, 0, 237, 1, [(99, 289)]), (10, 0, 242, 1, [(99, 26)]), (10, 0, 245, 1, [(99, 23)]), (10, 0, 248, 1, [(99, 24)]), (10, 0, 251, 3, [(99, 25)]), (10, 0, 254, 2, [(99, 22)]), (10, 0, 257, 1, [(99, 127)]), (10, 1, 260, 4, [(5, 46)]), (10, 0, 282, 1, [(99, 128)]), (10, 1, 285, 3, [(5, 49)]), (10, 1, 292, 1, [(1, 7)]), (10, 2, 301, 6, [(95, 71)]), (10, 1, 304, 2, [(10, 138)]), (10, 0, 307, 1, [(99, 135)]), (10, 0, 310, 1, [(99, 136)]), (10, 0, 313, 1, [(99, 137)]), (10, 0, 329, 2, [(99, 30)]), (10, 1, 335, 1, [(1, 12)]), (10, 1, 338, 1, [(1, 13)]), (10, 1, 344, 3, [(10, 145)]), (10, 1, 347, 2, [(10, 147)]), (10, 1, 350, 2, [(10, 102)]), (10, 0, 353, 1, [(99, 154)]), (10, 1, 356, 3, [(10, 155)]), (10, 0, 359, 2, [(99, 150)]), (10, 1, 362, 3, [(10, 156)]), (10, 0, 365, 1, [(99, 164)]), (10, 1, 368, 5, [(10, 159)]), (10, 1, 371, 3, [(10, 158)]), (10, 1, 374, 2, [(10, 165)]), (10, 0, 377, 2, [(99, 35)]), (10, 1, 384, 3, [(0, 81), (2, 81), (3, 81), (4, 81), (8, 81)]), (10, 1, 388, 2, [(0, 1), (2, 83), (3, 83), (4, 42), (8, 83)]), (10, 1, 391, 2, [(0, 84), (2, 37), (3, 40), (4, 40), (8, 84)]), (10, 1, 394, 2, [(0, 85), (2, 38), (3, 85), (4, 85), (8, 73)]), (10, 1, 397, 2, [(0, 86), (2, 86), (3, 86), (4, 43), (8, 86)]), (10, 1, 404, 1, [(10, 166)]), (11, 2, 1, 1, [(97, 0)]), (11, 0, 57, 2, [(99, 171)]), (11, 0, 61, 3, [(99, 170)]), (11, 0, 65, 2, [(99, 182)])]
def kLC_3 : List (Nat × Nat × Nat × Nat × List (Nat × Nat)) := [(11, 0, 69, 2, [(99, 183)]), (11, 0, 72, 2, [(99, 184)]), (11, 1, 75, 2, [(11, 185)]), (11, 1, 79, 3, [(11, 178)]), (11, 1, 82, 2, [(11, 187)]), (11, 0, 85, 1, [(99, 176)]), (11, 0, 89, 1, [(99, 177)]), (11, 0, 92, 2, [(99, 193)]), (11, 1, 96, 4, [(11, 179)]), (11, 1, 100, 2, [(11, 175)]), (11, 1, 103, 2, [(11, 188)]), (11, 0, 106, 1, [(99, 189)]), (11, 1, 109, 2, [(11, 190)]), (11, 1, 112, 2, [(11, 219)]), (11, 1, 115, 3, [(11, 174)]), (11, 1, 120, 1, [(11, 180)]), (11, 1, 124, 1, [(11, 186)]), (11, 1, 143, 3, [(11, 204)]), (11, 1, 146, 4, [(11, 203)]), (11, 1, 155, 1, [(11, 205)]), (11, 0, 158, 1, [(99, 206)]), (11, 1, 165, 1, [(11, 207)]), (11, 1, 171, 2, [(11, 208)]), (11, 1, 177, 1, [(11, 213)]), (11, 1, 180, 1, [(11, 210)]), (11, 1, 183, 2, [(11, 209)]), (11, 1, 187, 1, [(11, 211)]), (11, 1, 190, 1, [(11, 212)]), (11, 1, 193, 1, [(11, 172)]), (11, 1, 196, 1, [(11, 214)]), (11, 1, 199, 1, [(11, 173)]), (11, 1, 202, 3, [(11, 216)]), (11, 0, 205, 3, [(99, 217)]), (11, 0, 208, 2, [(99, 191)]), (11, 1, 211, 3, [(11, 218)]), (11, 1, 214, 2, [(11, 192)]), (11, 1, 217, 2, [(11, 220)]), (11, 1, 220, 2, [(11, 221)]), (11, 0, 223, 1, [(99, 181)]), (11, 1, 226, 2, [(11, 222)]), (11, 1, 229, 1, [(11, 223)]), (11, 1, 232, 2, [(11, 225)]), (11, 1, 235, 4, [(11, 228)]), (11, 1, 240, 3, [(11, 231)]), (11, 1, 243, 2, [(11, 235)]), (11, 0, 246, 4, [(99, 237)]), (11, 1, 253, 2, [(11, 236)]), (11, 1, 259, 3, [(11, 238)]), (11, 1, 268, 2, [(11, 239)]), (11, 1, 271, 3, [(11, 243)]), (11, 1, 274, 3, [(11, 246)]), (11, 1, 278, 3, [(11, 251)]), (11, 1, 281, 2, [(11, 252)]), (11, 1, 285, 1, [(11, 256)]), (11, 1, 291, 3, [(11, 260)]), (11, 1, 294, 3, [(11, 267)]), (11, 1, 297, 3, [(11, 268)]), (11, 1, 301, 2, [(11, 272)]), (11, 1, 307, 2, [(11, 274)]), (11, 1, 310, 3, [(11, 275)])]
def kLC_4 : List (Nat × Nat × Nat × Nat × List (Nat × Nat)) := [(11, 1, 313, 3, [(11, 276)]), (11, 1, 316, 3, [(11, 277)]), (11, 1, 322, 3, [(11, 279)]), (11, 1, 325, 3, [(11, 280)]), (11, 1, 328, 3, [(11, 278)]), (11, 1, 331, 3, [(11, 281)]), (11, 1, 334, 3, [(11, 282)]), (11, 1, 337, 3, [(11, 283)]), (15, 1, 335, 1, [(31, 294)]), (15, 1, 492, 1, [(31, 295)]), (15, 0, 495, 2, [(99, 296)]), (16, 0, 9, 2, [(96, 0)]), (20, 2, 9, 1, [(95, 87)]), (20, 2, 12, 1, [(95, 169)]), (20, 1, 13, 5, [(10, 88)]), (20, 1, 17, 5, [(11, 194)]), (20, 1, 18, 3, [(10, 89)]), (20, 1, 22, 3, [(11, 195)]), (20, 1, 23, 4, [(10, 90)]), (20, 1, 27, 4, [(11, 196)]), (20, 1, 28, 3, [(10, 91)]), (20, 1, 31, 3, [(11, 197)]), (20, 1, 32, 3, [(10, 92)]), (20, 1, 35, 3, [(11, 198)]), (20, 1, 36, 3, [(10, 98)]), (20, 1, 39, 3, [(11, 199)]), (20, 1, 40, 1, [(10, 99)]), (20, 1, 44, 1, [(11, 200)]), (20, 1, 45, 2, [(10, 100)]), (20, 1, 49, 2, [(11, 201)]), (20, 1, 52, 3, [(10, 109)]), (20, 1, 56, 3, [(11, 202)]), (20, 1, 57, 1, [(10, 110)]), (20, 1, 60, 1, [(11, 215)]), (20, 1, 61, 1, [(10, 111)]), (20, 1, 64, 1, [(11, 224)]), (20, 1, 65, 2, [(10, 112)]), (20, 1, 68, 2, [(11, 226)]), (20, 1, 69, 2, [(10, 113)]), (20, 1, 72, 2, [(11, 227)]), (20, 1, 73, 2, [(10, 114)]), (20, 1, 76, 2, [(11, 229)]), (20, 1, 77, 2, [(10, 115)]), (20, 1, 80, 2, [(11, 230)]), (20, 1, 81, 3, [(10, 118)]), (20, 1, 84, 3, [(11, 232)]), (20, 1, 85, 3, [(10, 120)]), (20, 1, 88, 3, [(11, 233)]), (20, 1, 89, 1, [(10, 121)]), (20, 1, 92, 1, [(11, 234)]), (20, 1, 93, 2, [(10, 122)]), (20, 1, 96, 2, [(11, 240)]), (20, 1, 97, 3, [(10, 123)]), (20, 1, 100, 3, [(11, 241)]), (20, 1, 101, 2, [(10, 124)]), (20, 1, 104, 2, [(11, 242)]), (20, 1, 105, 3, [(10, 125)]), (20, 1, 108, 3, [(11, 244)]), (20, 1, 109, 3, [(10, 126)]), (20, 1, 112, 3, [(11, 245)])]
def kLC_5 : List (Nat × Nat × Nat × Nat × List (Nat × Nat)) := [(20, 1, 113, 2, [(10, 129)]), (20, 1, 116, 2, [(11, 247)]), (20, 1, 117, 2, [(10, 130)]), (20, 1, 120, 2, [(11, 248)]), (20, 1, 121, 4, [(10, 131)]), (20, 1, 124, 4, [(11, 249)]), (20, 1, 125, 1, [(10, 132)]), (20, 1, 128, 1, [(11, 250)]), (20, 1, 129, 2, [(10, 133)]), (20, 1, 132, 2, [(11, 253)]), (20, 1, 133, 1, [(10, 134)]), (20, 1, 136, 1, [(11, 254)]), (20, 1, 137, 2, [(10, 139)]), (20, 1, 140, 2, [(11, 255)]), (20, 1, 141, 1, [(10, 140)]), (20, 1, 144, 1, [(11, 257)]), (20, 1, 145, 3, [(10, 141)]), (20, 1, 148, 3, [(11, 258)]), (20, 1, 149, 2, [(10, 142)]), (20, 1, 152, 2, [(11, 259)]), (20, 1, 153, 3, [(10, 143)]), (20, 1, 156, 3, [(11, 261)]), (20, 1, 157, 4, [(10, 144)]), (20, 1, 160, 4, [(11, 262)]), (20, 1, 161, 1, [(10, 146)]), (20, 1, 164, 1, [(11, 263)]), (20, 1, 165, 4, [(10, 148)]), (20, 1, 168, 4, [(11, 264)]), (20, 1, 169, 4, [(10, 149)]), (20, 1, 172, 4, [(11, 265)]), (20, 1, 173, 4, [(10, 151)]), (20, 1, 176, 4, [(11, 266)]), (20, 1, 177, 4, [(10, 152)]), (20, 1, 180, 4, [(11, 269)]), (20, 1, 181, 4, [(10, 153)]), (20, 1, 184, 4, [(11, 270)]), (20, 1, 185, 4, [(10, 157)]), (20, 1, 188, 4, [(11, 271)]), (20, 1, 189, 3, [(10, 160)]), (20, 1, 192, 3, [(11, 273)]), (20, 1, 193, 4, [(10, 161)]), (20, 1, 196, 4, [(11, 284)]), (20, 1, 197, 2, [(10, 162)]), (20, 1, 200, 2, [(11, 285)]), (20, 1, 201, 2, [(10, 163)]), (20, 1, 204, 2, [(11, 286)]), (20, 1, 205, 1, [(10, 167)]), (20, 1, 208, 1, [(11, 287)]), (20, 1, 209, 1, [(10, 168)]), (20, 1, 212, 1, [(11, 288)])]
def kLC : List (Nat × Nat × Nat × Nat × List (Nat × Nat)) := kLC_0 ++ kLC_1 ++ kLC_2 ++ kLC_3 ++ kLC_4 ++ kLC_5
def kLK_0 : List (Nat × Nat × Nat × Value) := [(1, 0, 92, .int (1103515245)), (10, 0, 139, .int (131071)), (10, 0, 149, .int (65535)), (11, 0, 118, .int (131071)), (11, 0, 119, .int (65535)), (11, 2, 132, .long (255)), (11, 0, 239, .int (131072)), (11, 1, 284, .int (1103515245)), (13, 1, 265, .int (1431655765)), (13, 1, 266, .int (858993459)), (13, 1, 267, .int (252645135)), (20, 2, 50, .long (4294967295))]
def kLK : List (Nat × Nat × Nat × Value) := kLK_0
def kLN_0 : List (Nat × Nat × Nat × Nat × Nat) := [(5, 1, 9, 24, 0), (5, 0, 9, 1, 13), (10, 0, 7, 1, 13), (10, 0, 22, 5, 10), (10, 0, 29, 6, 7), (10, 2, 36, 0, 0), (10, 1, 60, 25, 0), (10, 0, 66, 0, 5), (10, 0, 69, 3, 5), (10, 0, 72, 4, 5), (10, 0, 75, 8, 5), (10, 0, 78, 2, 5), (10, 0, 195, 9, 6), (10, 0, 295, 7, 5), (20, 0, 7, 10, 16), (20, 0, 10, 11, 31)]
def kLN : List (Nat × Nat × Nat × Nat × Nat) := kLN_0
def kLS_0 : List (Nat × Nat × Nat) := [(11, 134, 0), (15, 38, 1)]
def kLS : List (Nat × Nat × Nat) := kLS_0
theorem kwm_0 : Cond.fieldLink "ChalkWars$City" 9 "ChalkWars$City" "hands" "[I" ∈ kw := kw_of (ktb_1 (i := 35) rfl) rfl
theorem kwm_1 : Cond.fieldLink "ChalkWars$City" 31 "ChalkWars$City" "count" "I" ∈ kw := kw_of (ktb_1 (i := 36) rfl) rfl
theorem kwm_2 : Cond.fieldLink "ChalkWars$City" 34 "ChalkWars$City" "home" "I" ∈ kw := kw_of (ktb_1 (i := 39) rfl) rfl
theorem kwm_3 : Cond.fieldLink "ChalkWars$City" 37 "ChalkWars$City" "lines" "I" ∈ kw := kw_of (ktb_1 (i := 41) rfl) rfl
theorem kwm_4 : Cond.fieldLink "ChalkWars$City" 40 "ChalkWars$City" "dry" "I" ∈ kw := kw_of (ktb_1 (i := 43) rfl) rfl
theorem kwm_5 : Cond.fieldLink "ChalkWars$City" 43 "ChalkWars$City" "rain" "I" ∈ kw := kw_of (ktb_1 (i := 45) rfl) rfl
theorem kwm_6 : Cond.fieldLink "ChalkWars$City" 15 "ChalkWars$City" "end" "I" ∈ kw := kw_of (ktb_1 (i := 47) rfl) rfl
theorem kwm_7 : Cond.fieldLink "ChalkWars$City" 46 "ChalkWars$City" "dusk" "I" ∈ kw := kw_of (ktb_1 (i := 51) rfl) rfl
theorem kwm_8 : Cond.fieldLink "ChalkWars$City" 49 "ChalkWars$City" "score" "I" ∈ kw := kw_of (ktb_1 (i := 53) rfl) rfl
theorem kwm_9 : Cond.fieldLink "ChalkWars$City" 19 "ChalkWars$City" "chance" "I" ∈ kw := kw_of (ktb_1 (i := 55) rfl) rfl
theorem kwm_10 : Cond.fieldLink "ChalkWars$City" 52 "ChalkWars$City" "rules" "LChalkWars$Rules;" ∈ kw := kw_of (ktb_1 (i := 57) rfl) rfl
theorem kwm_11 : Cond.fieldLink "ChalkWars$City" 56 "ChalkWars$City" "reports" "LChalkWars$Report;" ∈ kw := kw_of (ktb_1 (i := 59) rfl) rfl
theorem kwm_12 : Cond.fieldLinkNest "ChalkWars$City" 64 "ChalkWars$Report" "number" "I" "ChalkWars" ∈ kn := kn_of (ktb_4 (i := 101) rfl) rfl
theorem kwm_13 : Cond.fieldLinkNest "ChalkWars$City" 139 "ChalkWars$Rules" "count" "I" "ChalkWars" ∈ kn := kn_of (ktb_3 (i := 8) rfl) rfl
theorem kwm_14 : Cond.fieldLinkNest "ChalkWars$City" 142 "ChalkWars$Rules" "kinds" "[I" "ChalkWars" ∈ kn := kn_of (ktb_3 (i := 0) rfl) rfl
theorem kwm_15 : Cond.fieldLinkNest "ChalkWars$City" 152 "ChalkWars$Rules" "doings" "[I" "ChalkWars" ∈ kn := kn_of (ktb_3 (i := 2) rfl) rfl
theorem kwm_16 : Cond.fieldLink "ChalkWars$City" 22 "ChalkWars$City" "facts" "[I" ∈ kw := kw_of (ktb_1 (i := 61) rfl) rfl
theorem kwm_17 : Cond.fieldLinkNest "ChalkWars$City" 158 "ChalkWars$Rules" "ends" "[I" "ChalkWars" ∈ kn := kn_of (ktb_3 (i := 4) rfl) rfl
theorem kwm_18 : Cond.fieldLinkNest "ChalkWars$City" 161 "ChalkWars$Rules" "code" "[I" "ChalkWars" ∈ kn := kn_of (ktb_3 (i := 6) rfl) rfl
theorem kwm_19 : Cond.sameField "ChalkWars$Dog" "ChalkWars$Thing" "number" "I" ∈ kw := kw_of (ktb_1 (i := 192) rfl) rfl
theorem kwm_20 : Cond.fieldLink "ChalkWars$Dog" 20 "ChalkWars$Dog" "number" "I" ∈ kw := kw_of (ktb_1 (i := 191) rfl) rfl
theorem kwm_21 : Cond.sameField "ChalkWars$Mother" "ChalkWars$Thing" "number" "I" ∈ kw := kw_of (ktb_1 (i := 188) rfl) rfl
theorem kwm_22 : Cond.fieldLink "ChalkWars$Mother" 13 "ChalkWars$Mother" "number" "I" ∈ kw := kw_of (ktb_1 (i := 187) rfl) rfl
theorem kwm_23 : Cond.sameField "ChalkWars$Mother" "ChalkWars$Thing" "chalk" "I" ∈ kw := kw_of (ktb_1 (i := 195) rfl) rfl
theorem kwm_24 : Cond.fieldLink "ChalkWars$Mother" 24 "ChalkWars$Mother" "chalk" "I" ∈ kw := kw_of (ktb_1 (i := 194) rfl) rfl
theorem kwm_25 : Cond.fieldLink "ChalkWars$Plans" 11 "ChalkWars$Plans" "levels" "[LChalkWars$City;" ∈ kw := kw_of (ktb_1 (i := 99) rfl) rfl
theorem kwm_26 : Cond.fieldLinkNest "ChalkWars$Plans" 31 "ChalkWars$City" "end" "I" "ChalkWars" ∈ kn := kn_of (ktb_1 (i := 48) rfl) rfl
theorem kwm_27 : Cond.fieldLinkNest "ChalkWars$Plans" 35 "ChalkWars$City" "dusk" "I" "ChalkWars" ∈ kn := kn_of (ktb_1 (i := 50) rfl) rfl
theorem kwm_28 : Cond.fieldLink "ChalkWars$Plans" 41 "ChalkWars$Plans" "length" "I" ∈ kw := kw_of (ktb_1 (i := 103) rfl) rfl
theorem kwm_29 : Cond.fieldLinkNest "ChalkWars$Plans" 82 "ChalkWars$City" "count" "I" "ChalkWars" ∈ kn := kn_of (ktb_1 (i := 38) rfl) rfl
theorem kwm_30 : Cond.fieldLink "ChalkWars$Plans" 17 "ChalkWars$Plans" "acts" "[I" ∈ kw := kw_of (ktb_1 (i := 100) rfl) rfl
theorem kwm_31 : Cond.fieldLink "ChalkWars$Plans" 64 "ChalkWars$Plans" "everShut" "I" ∈ kw := kw_of (ktb_1 (i := 112) rfl) rfl
theorem kwm_32 : Cond.fieldLink "ChalkWars$Plans" 58 "ChalkWars$Plans" "besieged" "I" ∈ kw := kw_of (ktb_1 (i := 109) rfl) rfl
theorem kwm_33 : Cond.fieldLink "ChalkWars$Plans" 61 "ChalkWars$Plans" "fewest" "I" ∈ kw := kw_of (ktb_1 (i := 110) rfl) rfl
theorem kwm_34 : Cond.fieldLink "ChalkWars$Plans" 52 "ChalkWars$Plans" "most" "I" ∈ kw := kw_of (ktb_1 (i := 105) rfl) rfl
theorem kwm_35 : Cond.fieldLink "ChalkWars$Plans" 21 "ChalkWars$Plans" "first" "[I" ∈ kw := kw_of (ktb_1 (i := 101) rfl) rfl
theorem kwm_36 : Cond.fieldLink "ChalkWars$Plans" 55 "ChalkWars$Plans" "ways" "I" ∈ kw := kw_of (ktb_1 (i := 107) rfl) rfl
theorem kwm_37 : Cond.fieldLink "ChalkWars$Plans" 100 "ChalkWars$Plans" "opening" "I" ∈ kw := kw_of (ktb_1 (i := 114) rfl) rfl
theorem kwm_38 : Cond.fieldLink "ChalkWars$Reader" 22 "ChalkWars$Reader" "fed" "I" ∈ kw := kw_of (ktb_1 (i := 144) rfl) rfl
theorem kwm_39 : Cond.fieldLink "ChalkWars$Reader" 9 "ChalkWars$Reader" "tape" "[B" ∈ kw := kw_of (ktb_1 (i := 143) rfl) rfl
theorem kwm_40 : Cond.fieldLink "ChalkWars$Reader" 26 "ChalkWars$Reader" "place" "I" ∈ kw := kw_of (ktb_1 (i := 148) rfl) rfl
theorem kwm_41 : Cond.fieldLink "ChalkWars$Reader" 19 "ChalkWars$Reader" "starts" "[I" ∈ kw := kw_of (ktb_1 (i := 147) rfl) rfl
theorem kwm_42 : Cond.fieldLink "ChalkWars$Reader" 15 "ChalkWars$Reader" "tokens" "[I" ∈ kw := kw_of (ktb_1 (i := 146) rfl) rfl
theorem kwm_43 : Cond.fieldLink "ChalkWars$Reader" 33 "ChalkWars$Reader" "ahead" "I" ∈ kw := kw_of (ktb_1 (i := 149) rfl) rfl
theorem kwm_44 : Cond.fieldLink "ChalkWars$Reader" 36 "ChalkWars$Reader" "token" "I" ∈ kw := kw_of (ktb_1 (i := 150) rfl) rfl
theorem kwm_45 : Cond.sameField "ChalkWars$Rubber" "ChalkWars$Thing" "number" "I" ∈ kw := kw_of (ktb_1 (i := 190) rfl) rfl
theorem kwm_46 : Cond.fieldLink "ChalkWars$Rubber" 17 "ChalkWars$Rubber" "number" "I" ∈ kw := kw_of (ktb_1 (i := 189) rfl) rfl
theorem kwm_47 : Cond.fieldLink "ChalkWars$Rules" 30 "ChalkWars$Rules" "size" "I" ∈ kw := kw_of (ktb_3 (i := 10) rfl) rfl
theorem kwm_48 : Cond.fieldLink "ChalkWars$Rules" 27 "ChalkWars$Rules" "code" "[I" ∈ kw := kw_of (ktb_3 (i := 5) rfl) rfl
theorem kwm_49 : Cond.fieldLink "ChalkWars$Rules" 34 "ChalkWars$Rules" "count" "I" ∈ kw := kw_of (ktb_3 (i := 7) rfl) rfl
theorem kwm_50 : Cond.fieldLink "ChalkWars$Rules" 11 "ChalkWars$Rules" "kinds" "[I" ∈ kw := kw_of (ktb_2 (i := 239) rfl) rfl
theorem kwm_51 : Cond.fieldLink "ChalkWars$Rules" 15 "ChalkWars$Rules" "doings" "[I" ∈ kw := kw_of (ktb_3 (i := 1) rfl) rfl
theorem kwm_52 : Cond.fieldLink "ChalkWars$Rules" 18 "ChalkWars$Rules" "ends" "[I" ∈ kw := kw_of (ktb_3 (i := 3) rfl) rfl
theorem kwm_53 : Cond.fieldLink "ChalkWars$Thing" 19 "ChalkWars$Thing" "parted" "Z" ∈ kw := kw_of (ktb_1 (i := 184) rfl) rfl
theorem kwm_54 : Cond.fieldLink "ChalkWars$Thing" 15 "ChalkWars$Thing" "begun" "I" ∈ kw := kw_of (ktb_1 (i := 182) rfl) rfl
theorem kwm_55 : Cond.fieldLink "ChalkWars$Thing" 9 "ChalkWars$Thing" "bodies" "[I" ∈ kw := kw_of (ktb_1 (i := 180) rfl) rfl
theorem kwm_56 : Cond.fieldLink "ChalkWars$Thing" 23 "ChalkWars$Thing" "number" "I" ∈ kw := kw_of (ktb_1 (i := 186) rfl) rfl
theorem kwm_57 : Cond.fieldLink "ChalkWars$Thing" 26 "ChalkWars$Thing" "chalk" "I" ∈ kw := kw_of (ktb_1 (i := 193) rfl) rfl
theorem kwm_58 : Cond.fieldLink "ChalkWars" 41 "ChalkWars" "sorts" "[I" ∈ kw := kw_of (ktb_2 (i := 23) rfl) rfl
theorem kwm_59 : Cond.fieldLink "ChalkWars" 51 "ChalkWars" "shelfHolds" "[I" ∈ kw := kw_of (ktb_2 (i := 26) rfl) rfl
theorem kwm_60 : Cond.fieldLink "ChalkWars" 62 "ChalkWars" "things" "[LChalkWars$Thing;" ∈ kw := kw_of (ktb_2 (i := 29) rfl) rfl
theorem kwm_61 : Cond.fieldLink "ChalkWars" 10 "ChalkWars" "city" "LChalkWars$City;" ∈ kw := kw_of (ktb_2 (i := 15) rfl) rfl
theorem kwm_62 : Cond.fieldLinkNest "ChalkWars" 94 "ChalkWars$City" "count" "I" "ChalkWars" ∈ kn := kn_of (ktb_1 (i := 37) rfl) rfl
theorem kwm_63 : Cond.fieldLinkNest "ChalkWars" 153 "ChalkWars$City" "dusk" "I" "ChalkWars" ∈ kn := kn_of (ktb_1 (i := 52) rfl) rfl
theorem kwm_64 : Cond.fieldLinkNest "ChalkWars" 156 "ChalkWars$City" "end" "I" "ChalkWars" ∈ kn := kn_of (ktb_1 (i := 49) rfl) rfl
theorem kwm_65 : Cond.fieldLinkNest "ChalkWars" 159 "ChalkWars$City" "home" "I" "ChalkWars" ∈ kn := kn_of (ktb_1 (i := 40) rfl) rfl
theorem kwm_66 : Cond.fieldLinkNest "ChalkWars" 162 "ChalkWars$City" "lines" "I" "ChalkWars" ∈ kn := kn_of (ktb_1 (i := 42) rfl) rfl
theorem kwm_67 : Cond.fieldLinkNest "ChalkWars" 165 "ChalkWars$City" "dry" "I" "ChalkWars" ∈ kn := kn_of (ktb_1 (i := 44) rfl) rfl
theorem kwm_68 : Cond.fieldLinkNest "ChalkWars" 168 "ChalkWars$City" "rain" "I" "ChalkWars" ∈ kn := kn_of (ktb_1 (i := 46) rfl) rfl
theorem kwm_69 : Cond.fieldLinkNest "ChalkWars" 177 "ChalkWars$City" "score" "I" "ChalkWars" ∈ kn := kn_of (ktb_1 (i := 54) rfl) rfl
theorem kwm_70 : Cond.fieldLink "ChalkWars" 32 "ChalkWars" "reader" "LChalkWars$Reader;" ∈ kw := kw_of (ktb_2 (i := 20) rfl) rfl
theorem kwm_71 : Cond.fieldLinkNest "ChalkWars" 188 "ChalkWars$Reader" "fed" "I" "ChalkWars" ∈ kn := kn_of (ktb_1 (i := 145) rfl) rfl
theorem kwm_72 : Cond.fieldLinkNest "ChalkWars" 214 "ChalkWars$Rules" "count" "I" "ChalkWars" ∈ kn := kn_of (ktb_3 (i := 9) rfl) rfl
theorem kwm_73 : Cond.fieldLink "ChalkWars" 19 "ChalkWars" "trial" "LChalkWars$City;" ∈ kw := kw_of (ktb_2 (i := 17) rfl) rfl
theorem kwm_74 : Cond.fieldLink "ChalkWars" 25 "ChalkWars" "plans" "LChalkWars$Plans;" ∈ kw := kw_of (ktb_2 (i := 18) rfl) rfl
theorem kwm_75 : Cond.fieldLinkNest "ChalkWars" 264 "ChalkWars$Plans" "most" "I" "ChalkWars" ∈ kn := kn_of (ktb_1 (i := 106) rfl) rfl
theorem kwm_76 : Cond.fieldLinkNest "ChalkWars" 267 "ChalkWars$Plans" "length" "I" "ChalkWars" ∈ kn := kn_of (ktb_1 (i := 104) rfl) rfl
theorem kwm_77 : Cond.fieldLinkNest "ChalkWars" 270 "ChalkWars$Plans" "first" "[I" "ChalkWars" ∈ kn := kn_of (ktb_1 (i := 102) rfl) rfl
theorem kwm_78 : Cond.fieldLinkNest "ChalkWars" 273 "ChalkWars$Plans" "ways" "I" "ChalkWars" ∈ kn := kn_of (ktb_1 (i := 108) rfl) rfl
theorem kwm_79 : Cond.fieldLinkNest "ChalkWars" 276 "ChalkWars$Plans" "fewest" "I" "ChalkWars" ∈ kn := kn_of (ktb_1 (i := 111) rfl) rfl
theorem kwm_80 : Cond.fieldLinkNest "ChalkWars" 279 "ChalkWars$Plans" "everShut" "I" "ChalkWars" ∈ kn := kn_of (ktb_1 (i := 113) rfl) rfl
theorem kwm_81 : Cond.fieldLinkNest "ChalkWars" 289 "ChalkWars$Plans" "opening" "I" "ChalkWars" ∈ kn := kn_of (ktb_1 (i := 115) rfl) rfl
theorem kwm_82 : Cond.fieldLinkNest "ChalkWars" 297 "ChalkWars$City" "reports" "LChalkWars$Report;" "ChalkWars" ∈ kn := kn_of (ktb_1 (i := 60) rfl) rfl
theorem kwm_83 : Cond.fieldLinkNest "ChalkWars" 316 "ChalkWars$Report" "after" "I" "ChalkWars" ∈ kn := kn_of (ktb_4 (i := 104) rfl) rfl
theorem kwm_84 : Cond.fieldLinkNest "ChalkWars" 319 "ChalkWars$Report" "least" "I" "ChalkWars" ∈ kn := kn_of (ktb_4 (i := 106) rfl) rfl
theorem kwm_85 : Cond.fieldLinkNest "ChalkWars" 322 "ChalkWars$Report" "most" "I" "ChalkWars" ∈ kn := kn_of (ktb_4 (i := 108) rfl) rfl
theorem kwm_86 : Cond.fieldLinkNest "ChalkWars" 323 "ChalkWars$Report" "number" "I" "ChalkWars" ∈ kn := kn_of (ktb_4 (i := 102) rfl) rfl
theorem kwm_87 : Cond.fieldLinkNest "ChalkWars" 326 "ChalkWars$Report" "earlier" "LChalkWars$Report;" "ChalkWars" ∈ kn := kn_of (ktb_4 (i := 110) rfl) rfl
theorem kwm_88 : Cond.fieldLinkNest "ChalkWars" 332 "ChalkWars$City" "chance" "I" "ChalkWars" ∈ kn := kn_of (ktb_1 (i := 56) rfl) rfl
theorem kwm_89 : Cond.fieldLink "ChalkWars" 341 "ChalkWars" "rowCount" "I" ∈ kw := kw_of (ktb_2 (i := 22) rfl) rfl
theorem kwm_90 : Cond.fieldLink "ChalkWars" 38 "ChalkWars" "rows" "[[I" ∈ kw := kw_of (ktb_2 (i := 21) rfl) rfl
theorem kwm_91 : Cond.fieldLink "ChalkWars" 45 "ChalkWars" "sizes" "[I" ∈ kw := kw_of (ktb_2 (i := 24) rfl) rfl
theorem kwm_92 : Cond.fieldLink "ChalkWars" 48 "ChalkWars" "items" "[[I" ∈ kw := kw_of (ktb_2 (i := 25) rfl) rfl
theorem kwm_93 : Cond.fieldLink "ChalkWars" 54 "ChalkWars" "shelfThing" "[I" ∈ kw := kw_of (ktb_2 (i := 27) rfl) rfl
theorem kwm_94 : Cond.fieldLink "ChalkWars" 57 "ChalkWars" "shelfSize" "[I" ∈ kw := kw_of (ktb_2 (i := 28) rfl) rfl
theorem kwm_95 : Cond.fieldLink "ChalkWars" 380 "ChalkWars" "latest" "LChalkWars$Thing;" ∈ kw := kw_of (ktb_2 (i := 30) rfl) rfl
theorem kwm_96 : Cond.fieldLinkNest "ChalkWars" 400 "ChalkWars$Thing" "parted" "Z" "ChalkWars" ∈ kn := kn_of (ktb_1 (i := 185) rfl) rfl
theorem kwm_97 : Cond.fieldLinkNest "ChalkWars" 407 "ChalkWars$Thing" "bodies" "[I" "ChalkWars" ∈ kn := kn_of (ktb_1 (i := 181) rfl) rfl
theorem kwm_98 : Cond.fieldLinkNest "ChalkWars" 210 "ChalkWars$City" "rules" "LChalkWars$Rules;" "ChalkWars" ∈ kn := kn_of (ktb_1 (i := 58) rfl) rfl
theorem kwm_99 : Cond.fieldLinkNest "ChalkWars" 410 "ChalkWars$Thing" "begun" "I" "ChalkWars" ∈ kn := kn_of (ktb_1 (i := 183) rfl) rfl
theorem kwm_100 : Cond.fieldLink "ChalkWars" 16 "ChalkWars" "kept" "LChalkWars$City;" ∈ kw := kw_of (ktb_2 (i := 16) rfl) rfl
theorem kwm_101 : Cond.fieldLink "ChalkWars" 413 "ChalkWars" "isKept" "Z" ∈ kw := kw_of (ktb_2 (i := 19) rfl) rfl
theorem kwm_102 : Cond.fieldLink "ChalkWarsModel" 9 "ChalkWarsModel" "m" "[I" ∈ kw := kw_of (ktb_5 (i := 144) rfl) rfl
theorem kwm_103 : Cond.fieldLink "ChalkWarsModel" 16 "ChalkWarsModel" "was" "[I" ∈ kw := kw_of (ktb_5 (i := 146) rfl) rfl
theorem kwm_104 : Cond.fieldLink "ChalkWarsModel" 128 "ChalkWarsModel" "taped" "I" ∈ kw := kw_of (ktb_5 (i := 149) rfl) rfl
theorem kwm_105 : Cond.fieldLink "ChalkWarsModel" 19 "ChalkWarsModel" "tape" "[I" ∈ kw := kw_of (ktb_5 (i := 148) rfl) rfl
theorem kwm_106 : Cond.fieldLink "ChalkWarsModel" 137 "ChalkWarsModel" "begin" "I" ∈ kw := kw_of (ktb_5 (i := 151) rfl) rfl
theorem kwm_107 : Cond.fieldLink "ChalkWarsModel" 140 "ChalkWarsModel" "at" "I" ∈ kw := kw_of (ktb_5 (i := 152) rfl) rfl
theorem kwm_108 : Cond.fieldLink "ChalkWarsModel" 149 "ChalkWarsModel" "value" "I" ∈ kw := kw_of (ktb_5 (i := 153) rfl) rfl
theorem kwm_109 : Cond.fieldLink "ChalkWarsModel" 161 "ChalkWarsModel" "bad" "Z" ∈ kw := kw_of (ktb_5 (i := 154) rfl) rfl
theorem kwm_110 : Cond.fieldLink "ChalkWarsModel" 152 "ChalkWarsModel" "token" "I" ∈ kw := kw_of (ktb_5 (i := 150) rfl) rfl
theorem kwm_111 : Cond.fieldLink "ChalkWarsModel" 168 "ChalkWarsModel" "laid" "I" ∈ kw := kw_of (ktb_5 (i := 156) rfl) rfl
theorem kwm_112 : Cond.fieldLink "ChalkWarsModel" 174 "ChalkWarsModel" "opened" "I" ∈ kw := kw_of (ktb_5 (i := 155) rfl) rfl
theorem kwm_113 : Cond.fieldLink "ChalkWarsModel" 22 "ChalkWarsModel" "pile" "[Z" ∈ kw := kw_of (ktb_5 (i := 157) rfl) rfl
theorem kwm_114 : Cond.fieldLink "ChalkWarsModel" 256 "ChalkWarsModel" "bestWorth" "I" ∈ kw := kw_of (ktb_5 (i := 160) rfl) rfl
theorem kwm_115 : Cond.fieldLink "ChalkWarsModel" 262 "ChalkWarsModel" "bestMany" "I" ∈ kw := kw_of (ktb_5 (i := 161) rfl) rfl
theorem kwm_116 : Cond.fieldLink "ChalkWarsModel" 265 "ChalkWarsModel" "bestPlan" "I" ∈ kw := kw_of (ktb_5 (i := 159) rfl) rfl
theorem kwm_117 : Cond.fieldLink "ChalkWarsModel" 250 "ChalkWarsModel" "shutBehind" "I" ∈ kw := kw_of (ktb_5 (i := 158) rfl) rfl
theorem kwm_118 : Cond.fieldLink "ChalkWarsModel" 26 "ChalkWarsModel" "turn" "[I" ∈ kw := kw_of (ktb_5 (i := 162) rfl) rfl
theorem kwm_119 : Cond.fieldLink "ChalkWarsModel" 29 "ChalkWarsModel" "ahead" "[I" ∈ kw := kw_of (ktb_5 (i := 163) rfl) rfl
theorem kwm_120 : Cond.fieldLink "ChalkWarsModel" 32 "ChalkWarsModel" "row" "[I" ∈ kw := kw_of (ktb_5 (i := 165) rfl) rfl
theorem kwm_121 : Cond.fieldLink "ChalkWarsModel" 288 "ChalkWarsModel" "rows" "I" ∈ kw := kw_of (ktb_5 (i := 164) rfl) rfl
theorem kwm_122 : Cond.fieldLink "ChalkWarsModel" 35 "ChalkWarsModel" "sorts" "[I" ∈ kw := kw_of (ktb_5 (i := 166) rfl) rfl
theorem kwm_123 : Cond.fieldLink "ChalkWarsModel" 38 "ChalkWarsModel" "sizes" "[I" ∈ kw := kw_of (ktb_5 (i := 167) rfl) rfl
theorem kwm_124 : Cond.fieldLink "ChalkWarsModel" 41 "ChalkWarsModel" "cells" "[J" ∈ kw := kw_of (ktb_5 (i := 168) rfl) rfl
theorem kwm_125 : Cond.fieldLink "ChalkWarsModel" 45 "ChalkWarsModel" "holds" "[I" ∈ kw := kw_of (ktb_5 (i := 169) rfl) rfl
theorem kwm_126 : Cond.fieldLink "ChalkWarsModel" 48 "ChalkWarsModel" "held" "[I" ∈ kw := kw_of (ktb_5 (i := 170) rfl) rfl
theorem kwm_127 : Cond.fieldLink "ChalkWarsModel" 51 "ChalkWarsModel" "heldSize" "[I" ∈ kw := kw_of (ktb_5 (i := 171) rfl) rfl
theorem kwm_128 : Cond.fieldLink "ChalkWarsModel" 304 "ChalkWarsModel" "traced" "I" ∈ kw := kw_of (ktb_5 (i := 173) rfl) rfl
theorem kwm_129 : Cond.fieldLink "ChalkWarsModel" 54 "ChalkWarsModel" "trace" "[I" ∈ kw := kw_of (ktb_5 (i := 172) rfl) rfl
theorem kwm_130 : Cond.fieldLink "ChalkWarsModel" 319 "ChalkWarsModel" "isParted" "Z" ∈ kw := kw_of (ktb_5 (i := 174) rfl) rfl
theorem kwm_131 : Cond.fieldLink "ChalkWarsModel" 13 "ChalkWarsModel" "kept" "[I" ∈ kw := kw_of (ktb_5 (i := 145) rfl) rfl
theorem kwm_132 : Cond.fieldLink "ChalkWarsModel" 340 "ChalkWarsModel" "isKept" "Z" ∈ kw := kw_of (ktb_5 (i := 147) rfl) rfl
theorem kwm_133 : Cond.fieldLink "java/lang/String" 9 "java/lang/String" "value" "[B" ∈ kw := kw_of (ktb_8 (i := 3) rfl) rfl
theorem kwm_134 : Cond.fieldLink "java/lang/String" 15 "java/lang/String" "coder" "B" ∈ kw := kw_of (ktb_8 (i := 4) rfl) rfl
theorem kwm_135 : Cond.fieldLink "ChalkWars$Report" 7 "ChalkWars$Report" "number" "I" ∈ kw := kw_of (ktb_4 (i := 100) rfl) rfl
theorem kwm_136 : Cond.fieldLink "ChalkWars$Report" 13 "ChalkWars$Report" "after" "I" ∈ kw := kw_of (ktb_4 (i := 103) rfl) rfl
theorem kwm_137 : Cond.fieldLink "ChalkWars$Report" 16 "ChalkWars$Report" "least" "I" ∈ kw := kw_of (ktb_4 (i := 105) rfl) rfl
theorem kwm_138 : Cond.fieldLink "ChalkWars$Report" 19 "ChalkWars$Report" "most" "I" ∈ kw := kw_of (ktb_4 (i := 107) rfl) rfl
theorem kwm_139 : Cond.fieldLink "ChalkWars$Report" 22 "ChalkWars$Report" "earlier" "LChalkWars$Report;" ∈ kw := kw_of (ktb_4 (i := 109) rfl) rfl
theorem kwm_140 : Cond.constant "ChalkWars$City" 92 (1103515245) ∈ kw := kw_of (ktb_4 (i := 160) rfl) rfl
theorem kwm_141 : Cond.constant "ChalkWars" 139 (131071) ∈ kw := kw_of (ktb_2 (i := 164) rfl) rfl
theorem kwm_142 : Cond.constant "ChalkWars" 149 (65535) ∈ kw := kw_of (ktb_2 (i := 176) rfl) rfl
theorem kwm_143 : Cond.constant "ChalkWarsModel" 118 (131071) ∈ kw := kw_of (ktb_6 (i := 81) rfl) rfl
theorem kwm_144 : Cond.constant "ChalkWarsModel" 119 (65535) ∈ kw := kw_of (ktb_6 (i := 82) rfl) rfl
theorem kwm_145 : Cond.constantLong "ChalkWarsModel" 132 (255) ∈ kw := kw_of (ktb_6 (i := 120) rfl) rfl
theorem kwm_146 : Cond.constant "ChalkWarsModel" 239 (131072) ∈ kw := kw_of (ktb_7 (i := 4) rfl) rfl
theorem kwm_147 : Cond.constant "ChalkWarsModel" 284 (1103515245) ∈ kw := kw_of (ktb_7 (i := 104) rfl) rfl
theorem kwm_148 : Cond.constant "java/lang/Integer" 265 (1431655765) ∈ kw := kw_of (ktb_3 (i := 194) rfl) rfl
theorem kwm_149 : Cond.constant "java/lang/Integer" 266 (858993459) ∈ kw := kw_of (ktb_3 (i := 195) rfl) rfl
theorem kwm_150 : Cond.constant "java/lang/Integer" 267 (252645135) ∈ kw := kw_of (ktb_3 (i := 196) rfl) rfl
theorem kwm_151 : Cond.constantLong "ChalkWarsLaw" 50 (4294967295) ∈ kw := kw_of (ktb_7 (i := 229) rfl) rfl
theorem kwm_152 : Cond.instanceMethod ⟨"ChalkWars$Thing", "<init>", "()V"⟩ ∈ kw := kw_of (ktb_1 (i := 177) rfl) rfl
theorem kwm_153 : Cond.methodLinkNest "ChalkWars$Child" 1 ⟨"ChalkWars$Thing", "<init>", "()V"⟩ "ChalkWars" ∈ kn := kn_of (ktb_1 (i := 176) rfl) rfl
theorem kwm_154 : Cond.code ⟨"ChalkWars$Thing", "<init>", "()V"⟩ prog_12_method_1_code 1 none ∈ kw := kw_of (ktb_1 (i := 178) rfl) rfl
theorem kwm_155 : Cond.initialized "ChalkWars$Thing" ∈ kw := kw_of (ktb_1 (i := 5) rfl) rfl
theorem kwm_156 : Cond.declares ⟨"ChalkWars$Thing", "begins", "(I)Z"⟩ ∈ kn := kn_of (ktb_5 (i := 32) rfl) rfl
theorem kwm_157 : Cond.instanceMethod ⟨"ChalkWars$Thing", "begins", "(I)Z"⟩ ∈ kw := kw_of (ktb_5 (i := 34) rfl) rfl
theorem kwm_158 : Cond.selects "ChalkWars$Child" ⟨"ChalkWars$Child", "begins", "(I)Z"⟩ ⟨"ChalkWars$Thing", "begins", "(I)Z"⟩ ∈ kw := kw_of (ktb_5 (i := 33) rfl) rfl
theorem kwm_159 : Cond.methodLink "ChalkWars$Child" 7 ⟨"ChalkWars$Child", "begins", "(I)Z"⟩ ∈ kw := kw_of (ktb_5 (i := 30) rfl) rfl
theorem kwm_160 : Cond.sameMethod "ChalkWars$Child" "ChalkWars$Thing" "begins" "(I)Z" ∈ kw := kw_of (ktb_5 (i := 31) rfl) rfl
theorem kwm_161 : Cond.code ⟨"ChalkWars$Thing", "begins", "(I)Z"⟩ prog_12_method_3_code 2 (some .boolean) ∈ kw := kw_of (ktb_5 (i := 35) rfl) rfl
theorem kwm_162 : Cond.instanceMethod ⟨"ChalkWars$Thing", "chalks", "(I)I"⟩ ∈ kw := kw_of (ktb_5 (i := 25) rfl) rfl
theorem kwm_163 : Cond.methodLink "ChalkWars$Child" 13 ⟨"ChalkWars$Thing", "chalks", "(I)I"⟩ ∈ kw := kw_of (ktb_5 (i := 36) rfl) rfl
theorem kwm_164 : Cond.sameMethod "ChalkWars$Thing" "ChalkWars$Thing" "chalks" "(I)I" ∈ kw := kw_of (ktb_5 (i := 26) rfl) rfl
theorem kwm_165 : Cond.superclass "ChalkWars$Child" "ChalkWars$Thing" ∈ kw := kw_of (ktb_1 (i := 206) rfl) rfl
theorem kwm_166 : Cond.code ⟨"ChalkWars$Thing", "chalks", "(I)I"⟩ prog_12_method_4_code 2 (some .int) ∈ kw := kw_of (ktb_5 (i := 49) rfl) rfl
theorem kwm_167 : Cond.methodLink "ChalkWars$City" 3 ⟨"java/lang/Object", "<init>", "()V"⟩ ∈ kw := kw_of (ktb_1 (i := 34) rfl) rfl
theorem kwm_168 : Cond.instanceMethod ⟨"java/lang/Object", "<init>", "()V"⟩ ∈ kw := kw_of (ktb_1 (i := 27) rfl) rfl
theorem kwm_169 : Cond.code ⟨"java/lang/Object", "<init>", "()V"⟩ object_method_1_code 1 none ∈ kw := kw_of (ktb_1 (i := 28) rfl) rfl
theorem kwm_170 : Cond.methodLink "ChalkWars$City" 25 ⟨"java/lang/System", "arraycopy", "(Ljava/lang/Object;ILjava/lang/Object;II)V"⟩ ∈ kw := kw_of (ktb_3 (i := 205) rfl) rfl
theorem kwm_171 : Cond.native ⟨"java/lang/System", "arraycopy", "(Ljava/lang/Object;ILjava/lang/Object;II)V"⟩ ∈ kw := kw_of (ktb_3 (i := 207) rfl) rfl
theorem kwm_172 : Cond.static ⟨"java/lang/System", "arraycopy", "(Ljava/lang/Object;ILjava/lang/Object;II)V"⟩ ∈ kw := kw_of (ktb_3 (i := 206) rfl) rfl
theorem kwm_173 : Cond.initialized "java/lang/System" ∈ kw := kw_of (ktb_1 (i := 19) rfl) rfl
theorem kwm_174 : Cond.instanceMethod ⟨"ChalkWars$City", "put", "(III)I"⟩ ∈ kw := kw_of (ktb_2 (i := 86) rfl) rfl
theorem kwm_175 : Cond.selects "ChalkWars$City" ⟨"ChalkWars$City", "put", "(III)I"⟩ ⟨"ChalkWars$City", "put", "(III)I"⟩ ∈ kw := kw_of (kpv_1 (q := (⟨"ChalkWars$City", "put", "(III)I"⟩, 13)) (i := 1) rfl) rfl
theorem kwm_176 : Cond.methodLink "ChalkWars$City" 60 ⟨"ChalkWars$City", "put", "(III)I"⟩ ∈ kw := kw_of (ktb_2 (i := 84) rfl) rfl
theorem kwm_177 : Cond.code ⟨"ChalkWars$City", "put", "(III)I"⟩ prog_3_method_5_code 6 (some .int) ∈ kw := kw_of (ktb_2 (i := 87) rfl) rfl
theorem kwm_178 : Cond.initialized "ChalkWars$City" ∈ kw := kw_of (ktb_1 (i := 2) rfl) rfl
theorem kwm_179 : Cond.instanceMethod ⟨"ChalkWars$City", "walkAll", "()V"⟩ ∈ kw := kw_of (ktb_3 (i := 167) rfl) rfl
theorem kwm_180 : Cond.selects "ChalkWars$City" ⟨"ChalkWars$City", "walkAll", "()V"⟩ ⟨"ChalkWars$City", "walkAll", "()V"⟩ ∈ kw := kw_of (kpv_3 (q := (⟨"ChalkWars$City", "walkAll", "()V"⟩, 13)) (i := 4) rfl) rfl
theorem kwm_181 : Cond.methodLink "ChalkWars$City" 69 ⟨"ChalkWars$City", "walkAll", "()V"⟩ ∈ kw := kw_of (ktb_3 (i := 165) rfl) rfl
theorem kwm_182 : Cond.code ⟨"ChalkWars$City", "walkAll", "()V"⟩ prog_3_method_13_code 6 none ∈ kw := kw_of (ktb_3 (i := 168) rfl) rfl
theorem kwm_183 : Cond.instanceMethod ⟨"ChalkWars$City", "settle", "(I)I"⟩ ∈ kw := kw_of (ktb_3 (i := 177) rfl) rfl
theorem kwm_184 : Cond.selects "ChalkWars$City" ⟨"ChalkWars$City", "settle", "(I)I"⟩ ⟨"ChalkWars$City", "settle", "(I)I"⟩ ∈ kw := kw_of (kpv_3 (q := (⟨"ChalkWars$City", "settle", "(I)I"⟩, 13)) (i := 5) rfl) rfl
theorem kwm_185 : Cond.methodLink "ChalkWars$City" 72 ⟨"ChalkWars$City", "settle", "(I)I"⟩ ∈ kw := kw_of (ktb_3 (i := 175) rfl) rfl
theorem kwm_186 : Cond.code ⟨"ChalkWars$City", "settle", "(I)I"⟩ prog_3_method_14_code 3 (some .int) ∈ kw := kw_of (ktb_3 (i := 178) rfl) rfl
theorem kwm_187 : Cond.static ⟨"java/lang/Integer", "bitCount", "(I)I"⟩ ∈ kw := kw_of (ktb_3 (i := 192) rfl) rfl
theorem kwm_188 : Cond.methodLink "ChalkWars$City" 76 ⟨"java/lang/Integer", "bitCount", "(I)I"⟩ ∈ kw := kw_of (ktb_3 (i := 191) rfl) rfl
theorem kwm_189 : Cond.code ⟨"java/lang/Integer", "bitCount", "(I)I"⟩ prog_15_method_49_code 1 (some .int) ∈ kw := kw_of (ktb_3 (i := 193) rfl) rfl
theorem kwm_190 : Cond.initialized "java/lang/Integer" ∈ kw := kw_of (ktb_1 (i := 18) rfl) rfl
theorem kwm_191 : Cond.instanceMethod ⟨"ChalkWars$City", "isOver", "()Z"⟩ ∈ kw := kw_of (ktb_2 (i := 201) rfl) rfl
theorem kwm_192 : Cond.selects "ChalkWars$City" ⟨"ChalkWars$City", "isOver", "()Z"⟩ ⟨"ChalkWars$City", "isOver", "()Z"⟩ ∈ kw := kw_of (kpv_1 (q := (⟨"ChalkWars$City", "isOver", "()Z"⟩, 13)) (i := 14) rfl) rfl
theorem kwm_193 : Cond.methodLink "ChalkWars$City" 81 ⟨"ChalkWars$City", "isOver", "()Z"⟩ ∈ kw := kw_of (ktb_3 (i := 212) rfl) rfl
theorem kwm_194 : Cond.code ⟨"ChalkWars$City", "isOver", "()Z"⟩ prog_3_method_7_code 1 (some .boolean) ∈ kw := kw_of (ktb_2 (i := 202) rfl) rfl
theorem kwm_195 : Cond.instanceMethod ⟨"ChalkWars$City", "byTurns", "()I"⟩ ∈ kw := kw_of (ktb_3 (i := 159) rfl) rfl
theorem kwm_196 : Cond.selects "ChalkWars$City" ⟨"ChalkWars$City", "byTurns", "()I"⟩ ⟨"ChalkWars$City", "byTurns", "()I"⟩ ∈ kw := kw_of (kpv_3 (q := (⟨"ChalkWars$City", "byTurns", "()I"⟩, 13)) (i := 2) rfl) rfl
theorem kwm_197 : Cond.methodLink "ChalkWars$City" 85 ⟨"ChalkWars$City", "byTurns", "()I"⟩ ∈ kw := kw_of (ktb_3 (i := 213) rfl) rfl
theorem kwm_198 : Cond.code ⟨"ChalkWars$City", "byTurns", "()I"⟩ prog_3_method_8_code 1 (some .int) ∈ kw := kw_of (ktb_3 (i := 160) rfl) rfl
theorem kwm_199 : Cond.instanceMethod ⟨"ChalkWars$City", "pass", "(I)I"⟩ ∈ kw := kw_of (ktb_3 (i := 163) rfl) rfl
theorem kwm_200 : Cond.selects "ChalkWars$City" ⟨"ChalkWars$City", "pass", "(I)I"⟩ ⟨"ChalkWars$City", "pass", "(I)I"⟩ ∈ kw := kw_of (kpv_3 (q := (⟨"ChalkWars$City", "pass", "(I)I"⟩, 13)) (i := 3) rfl) rfl
theorem kwm_201 : Cond.methodLink "ChalkWars$City" 89 ⟨"ChalkWars$City", "pass", "(I)I"⟩ ∈ kw := kw_of (ktb_3 (i := 214) rfl) rfl
theorem kwm_202 : Cond.code ⟨"ChalkWars$City", "pass", "(I)I"⟩ prog_3_method_9_code 2 (some .int) ∈ kw := kw_of (ktb_3 (i := 164) rfl) rfl
theorem kwm_203 : Cond.instanceMethod ⟨"ChalkWars$City", "passByLot", "()I"⟩ ∈ kw := kw_of (ktb_4 (i := 158) rfl) rfl
theorem kwm_204 : Cond.selects "ChalkWars$City" ⟨"ChalkWars$City", "passByLot", "()I"⟩ ⟨"ChalkWars$City", "passByLot", "()I"⟩ ∈ kw := kw_of (kpv_4 (q := (⟨"ChalkWars$City", "passByLot", "()I"⟩, 13)) (i := 3) rfl) rfl
theorem kwm_205 : Cond.methodLink "ChalkWars$City" 93 ⟨"ChalkWars$City", "passByLot", "()I"⟩ ∈ kw := kw_of (ktb_4 (i := 169) rfl) rfl
theorem kwm_206 : Cond.code ⟨"ChalkWars$City", "passByLot", "()I"⟩ prog_3_method_11_code 2 (some .int) ∈ kw := kw_of (ktb_4 (i := 159) rfl) rfl
theorem kwm_207 : Cond.instanceMethod ⟨"ChalkWars$City", "get", "(II)I"⟩ ∈ kw := kw_of (ktb_2 (i := 98) rfl) rfl
theorem kwm_208 : Cond.selects "ChalkWars$City" ⟨"ChalkWars$City", "get", "(II)I"⟩ ⟨"ChalkWars$City", "get", "(II)I"⟩ ∈ kw := kw_of (kpv_1 (q := (⟨"ChalkWars$City", "get", "(II)I"⟩, 13)) (i := 3) rfl) rfl
theorem kwm_209 : Cond.methodLink "ChalkWars$City" 96 ⟨"ChalkWars$City", "get", "(II)I"⟩ ∈ kw := kw_of (ktb_2 (i := 123) rfl) rfl
theorem kwm_210 : Cond.code ⟨"ChalkWars$City", "get", "(II)I"⟩ prog_3_method_4_code 4 (some .int) ∈ kw := kw_of (ktb_2 (i := 99) rfl) rfl
theorem kwm_211 : Cond.static ⟨"ChalkWars$City", "beside", "(II)I"⟩ ∈ kw := kw_of (ktb_2 (i := 186) rfl) rfl
theorem kwm_212 : Cond.methodLink "ChalkWars$City" 100 ⟨"ChalkWars$City", "beside", "(II)I"⟩ ∈ kw := kw_of (ktb_3 (i := 169) rfl) rfl
theorem kwm_213 : Cond.code ⟨"ChalkWars$City", "beside", "(II)I"⟩ prog_3_method_26_code 2 (some .int) ∈ kw := kw_of (ktb_2 (i := 187) rfl) rfl
theorem kwm_214 : Cond.static ⟨"ChalkWars$City", "edgeAhead", "(II)I"⟩ ∈ kw := kw_of (ktb_2 (i := 189) rfl) rfl
theorem kwm_215 : Cond.methodLink "ChalkWars$City" 103 ⟨"ChalkWars$City", "edgeAhead", "(II)I"⟩ ∈ kw := kw_of (ktb_3 (i := 170) rfl) rfl
theorem kwm_216 : Cond.code ⟨"ChalkWars$City", "edgeAhead", "(II)I"⟩ prog_3_method_27_code 2 (some .int) ∈ kw := kw_of (ktb_2 (i := 190) rfl) rfl
theorem kwm_217 : Cond.static ⟨"ChalkWars$City", "turnsOf", "(I)I"⟩ ∈ kw := kw_of (ktb_2 (i := 107) rfl) rfl
theorem kwm_218 : Cond.methodLink "ChalkWars$City" 106 ⟨"ChalkWars$City", "turnsOf", "(I)I"⟩ ∈ kw := kw_of (ktb_3 (i := 171) rfl) rfl
theorem kwm_219 : Cond.code ⟨"ChalkWars$City", "turnsOf", "(I)I"⟩ prog_3_method_32_code 1 (some .int) ∈ kw := kw_of (ktb_2 (i := 108) rfl) rfl
theorem kwm_220 : Cond.static ⟨"ChalkWars$City", "turned", "(II)I"⟩ ∈ kw := kw_of (ktb_3 (i := 173) rfl) rfl
theorem kwm_221 : Cond.methodLink "ChalkWars$City" 109 ⟨"ChalkWars$City", "turned", "(II)I"⟩ ∈ kw := kw_of (ktb_3 (i := 172) rfl) rfl
theorem kwm_222 : Cond.code ⟨"ChalkWars$City", "turned", "(II)I"⟩ prog_3_method_29_code 2 (some .int) ∈ kw := kw_of (ktb_3 (i := 174) rfl) rfl
theorem kwm_223 : Cond.instanceMethod ⟨"ChalkWars$City", "willOf", "(I)I"⟩ ∈ kw := kw_of (ktb_2 (i := 117) rfl) rfl
theorem kwm_224 : Cond.selects "ChalkWars$City" ⟨"ChalkWars$City", "willOf", "(I)I"⟩ ⟨"ChalkWars$City", "willOf", "(I)I"⟩ ∈ kw := kw_of (kpv_1 (q := (⟨"ChalkWars$City", "willOf", "(I)I"⟩, 13)) (i := 4) rfl) rfl
theorem kwm_225 : Cond.methodLink "ChalkWars$City" 112 ⟨"ChalkWars$City", "willOf", "(I)I"⟩ ∈ kw := kw_of (ktb_3 (i := 179) rfl) rfl
theorem kwm_226 : Cond.code ⟨"ChalkWars$City", "willOf", "(I)I"⟩ prog_3_method_16_code 4 (some .int) ∈ kw := kw_of (ktb_2 (i := 118) rfl) rfl
theorem kwm_227 : Cond.instanceMethod ⟨"ChalkWars$City", "obey", "(II)V"⟩ ∈ kw := kw_of (ktb_3 (i := 182) rfl) rfl
theorem kwm_228 : Cond.selects "ChalkWars$City" ⟨"ChalkWars$City", "obey", "(II)V"⟩ ⟨"ChalkWars$City", "obey", "(II)V"⟩ ∈ kw := kw_of (kpv_3 (q := (⟨"ChalkWars$City", "obey", "(II)V"⟩, 13)) (i := 6) rfl) rfl
theorem kwm_229 : Cond.methodLink "ChalkWars$City" 115 ⟨"ChalkWars$City", "obey", "(II)V"⟩ ∈ kw := kw_of (ktb_3 (i := 180) rfl) rfl
theorem kwm_230 : Cond.code ⟨"ChalkWars$City", "obey", "(II)V"⟩ prog_3_method_15_code 6 none ∈ kw := kw_of (ktb_3 (i := 183) rfl) rfl
theorem kwm_231 : Cond.instanceMethod ⟨"ChalkWars$City", "shutCells", "()I"⟩ ∈ kw := kw_of (ktb_2 (i := 205) rfl) rfl
theorem kwm_232 : Cond.selects "ChalkWars$City" ⟨"ChalkWars$City", "shutCells", "()I"⟩ ⟨"ChalkWars$City", "shutCells", "()I"⟩ ∈ kw := kw_of (kpv_1 (q := (⟨"ChalkWars$City", "shutCells", "()I"⟩, 13)) (i := 15) rfl) rfl
theorem kwm_233 : Cond.methodLink "ChalkWars$City" 119 ⟨"ChalkWars$City", "shutCells", "()I"⟩ ∈ kw := kw_of (ktb_3 (i := 190) rfl) rfl
theorem kwm_234 : Cond.code ⟨"ChalkWars$City", "shutCells", "()I"⟩ prog_3_method_20_code 1 (some .int) ∈ kw := kw_of (ktb_2 (i := 206) rfl) rfl
theorem kwm_235 : Cond.static ⟨"ChalkWars$City", "strokesOf", "(II)I"⟩ ∈ kw := kw_of (ktb_2 (i := 101) rfl) rfl
theorem kwm_236 : Cond.methodLink "ChalkWars$City" 122 ⟨"ChalkWars$City", "strokesOf", "(II)I"⟩ ∈ kw := kw_of (ktb_3 (i := 184) rfl) rfl
theorem kwm_237 : Cond.code ⟨"ChalkWars$City", "strokesOf", "(II)I"⟩ prog_3_method_30_code 3 (some .int) ∈ kw := kw_of (ktb_2 (i := 102) rfl) rfl
theorem kwm_238 : Cond.static ⟨"ChalkWars$City", "edgesAt", "(II)I"⟩ ∈ kw := kw_of (ktb_3 (i := 186) rfl) rfl
theorem kwm_239 : Cond.methodLink "ChalkWars$City" 125 ⟨"ChalkWars$City", "edgesAt", "(II)I"⟩ ∈ kw := kw_of (ktb_3 (i := 185) rfl) rfl
theorem kwm_240 : Cond.code ⟨"ChalkWars$City", "edgesAt", "(II)I"⟩ prog_3_method_28_code 4 (some .int) ∈ kw := kw_of (ktb_3 (i := 187) rfl) rfl
theorem kwm_241 : Cond.static ⟨"ChalkWars$City", "rubs", "(I)Z"⟩ ∈ kw := kw_of (ktb_2 (i := 110) rfl) rfl
theorem kwm_242 : Cond.methodLink "ChalkWars$City" 128 ⟨"ChalkWars$City", "rubs", "(I)Z"⟩ ∈ kw := kw_of (ktb_3 (i := 188) rfl) rfl
theorem kwm_243 : Cond.code ⟨"ChalkWars$City", "rubs", "(I)Z"⟩ prog_3_method_33_code 1 (some .boolean) ∈ kw := kw_of (ktb_2 (i := 111) rfl) rfl
theorem kwm_244 : Cond.static ⟨"ChalkWars$City", "costsOf", "(I)I"⟩ ∈ kw := kw_of (ktb_2 (i := 104) rfl) rfl
theorem kwm_245 : Cond.methodLink "ChalkWars$City" 132 ⟨"ChalkWars$City", "costsOf", "(I)I"⟩ ∈ kw := kw_of (ktb_3 (i := 189) rfl) rfl
theorem kwm_246 : Cond.code ⟨"ChalkWars$City", "costsOf", "(I)I"⟩ prog_3_method_31_code 1 (some .int) ∈ kw := kw_of (ktb_2 (i := 105) rfl) rfl
theorem kwm_247 : Cond.instanceMethod ⟨"ChalkWars$City", "learnFacts", "(I)V"⟩ ∈ kw := kw_of (ktb_2 (i := 121) rfl) rfl
theorem kwm_248 : Cond.selects "ChalkWars$City" ⟨"ChalkWars$City", "learnFacts", "(I)V"⟩ ⟨"ChalkWars$City", "learnFacts", "(I)V"⟩ ∈ kw := kw_of (kpv_1 (q := (⟨"ChalkWars$City", "learnFacts", "(I)V"⟩, 13)) (i := 5) rfl) rfl
theorem kwm_249 : Cond.methodLink "ChalkWars$City" 135 ⟨"ChalkWars$City", "learnFacts", "(I)V"⟩ ∈ kw := kw_of (ktb_2 (i := 119) rfl) rfl
theorem kwm_250 : Cond.code ⟨"ChalkWars$City", "learnFacts", "(I)V"⟩ prog_3_method_17_code 2 none ∈ kw := kw_of (ktb_2 (i := 122) rfl) rfl
theorem kwm_251 : Cond.static ⟨"ChalkWars$City", "isUnder", "(II)Z"⟩ ∈ kw := kw_of (ktb_2 (i := 113) rfl) rfl
theorem kwm_252 : Cond.methodLink "ChalkWars$City" 145 ⟨"ChalkWars$City", "isUnder", "(II)Z"⟩ ∈ kw := kw_of (ktb_2 (i := 112) rfl) rfl
theorem kwm_253 : Cond.code ⟨"ChalkWars$City", "isUnder", "(II)Z"⟩ prog_3_method_34_code 2 (some .boolean) ∈ kw := kw_of (ktb_2 (i := 114) rfl) rfl
theorem kwm_254 : Cond.instanceMethod ⟨"ChalkWars$City", "holds", "(I)Z"⟩ ∈ kw := kw_of (ktb_2 (i := 126) rfl) rfl
theorem kwm_255 : Cond.selects "ChalkWars$City" ⟨"ChalkWars$City", "holds", "(I)Z"⟩ ⟨"ChalkWars$City", "holds", "(I)Z"⟩ ∈ kw := kw_of (kpv_1 (q := (⟨"ChalkWars$City", "holds", "(I)Z"⟩, 13)) (i := 6) rfl) rfl
theorem kwm_256 : Cond.methodLink "ChalkWars$City" 149 ⟨"ChalkWars$City", "holds", "(I)Z"⟩ ∈ kw := kw_of (ktb_2 (i := 124) rfl) rfl
theorem kwm_257 : Cond.code ⟨"ChalkWars$City", "holds", "(I)Z"⟩ prog_3_method_18_code 5 (some .boolean) ∈ kw := kw_of (ktb_2 (i := 127) rfl) rfl
theorem kwm_258 : Cond.instanceMethod ⟨"ChalkWars$Rules", "beginOf", "(I)I"⟩ ∈ kw := kw_of (ktb_2 (i := 130) rfl) rfl
theorem kwm_259 : Cond.selects "ChalkWars$Rules" ⟨"ChalkWars$Rules", "beginOf", "(I)I"⟩ ⟨"ChalkWars$Rules", "beginOf", "(I)I"⟩ ∈ kw := kw_of (kpv_1 (q := (⟨"ChalkWars$Rules", "beginOf", "(I)I"⟩, 6)) (i := 7) rfl) rfl
theorem kwm_260 : Cond.methodLinkNest "ChalkWars$City" 155 ⟨"ChalkWars$Rules", "beginOf", "(I)I"⟩ "ChalkWars" ∈ kn := kn_of (ktb_2 (i := 128) rfl) rfl
theorem kwm_261 : Cond.code ⟨"ChalkWars$Rules", "beginOf", "(I)I"⟩ prog_11_method_6_code 2 (some .int) ∈ kw := kw_of (ktb_2 (i := 132) rfl) rfl
theorem kwm_262 : Cond.initialized "ChalkWars$Rules" ∈ kw := kw_of (ktb_1 (i := 12) rfl) rfl
theorem kwm_263 : Cond.instanceMethod ⟨"ChalkWars$City", "valueOf", "(I)I"⟩ ∈ kw := kw_of (ktb_2 (i := 135) rfl) rfl
theorem kwm_264 : Cond.selects "ChalkWars$City" ⟨"ChalkWars$City", "valueOf", "(I)I"⟩ ⟨"ChalkWars$City", "valueOf", "(I)I"⟩ ∈ kw := kw_of (kpv_1 (q := (⟨"ChalkWars$City", "valueOf", "(I)I"⟩, 13)) (i := 8) rfl) rfl
theorem kwm_265 : Cond.methodLink "ChalkWars$City" 164 ⟨"ChalkWars$City", "valueOf", "(I)I"⟩ ∈ kw := kw_of (ktb_2 (i := 133) rfl) rfl
theorem kwm_266 : Cond.code ⟨"ChalkWars$City", "valueOf", "(I)I"⟩ prog_3_method_19_code 4 (some .int) ∈ kw := kw_of (ktb_2 (i := 136) rfl) rfl
theorem kwm_267 : Cond.static ⟨"ChalkWars$Rules", "truthOf", "(III)I"⟩ ∈ kw := kw_of (ktb_2 (i := 138) rfl) rfl
theorem kwm_268 : Cond.methodLinkNest "ChalkWars$City" 167 ⟨"ChalkWars$Rules", "truthOf", "(III)I"⟩ "ChalkWars" ∈ kn := kn_of (ktb_2 (i := 137) rfl) rfl
theorem kwm_269 : Cond.code ⟨"ChalkWars$Rules", "truthOf", "(III)I"⟩ prog_11_method_4_code 3 (some .int) ∈ kw := kw_of (ktb_2 (i := 139) rfl) rfl
theorem kwm_270 : Cond.static ⟨"ChalkWars$City", "shutFrom", "(II)I"⟩ ∈ kw := kw_of (ktb_2 (i := 208) rfl) rfl
theorem kwm_271 : Cond.methodLink "ChalkWars$City" 170 ⟨"ChalkWars$City", "shutFrom", "(II)I"⟩ ∈ kw := kw_of (ktb_2 (i := 207) rfl) rfl
theorem kwm_272 : Cond.code ⟨"ChalkWars$City", "shutFrom", "(II)I"⟩ prog_3_method_21_code 7 (some .int) ∈ kw := kw_of (ktb_2 (i := 209) rfl) rfl
theorem kwm_273 : Cond.static ⟨"ChalkWars$City", "openRightward", "(I)I"⟩ ∈ kw := kw_of (ktb_2 (i := 211) rfl) rfl
theorem kwm_274 : Cond.methodLink "ChalkWars$City" 173 ⟨"ChalkWars$City", "openRightward", "(I)I"⟩ ∈ kw := kw_of (ktb_2 (i := 210) rfl) rfl
theorem kwm_275 : Cond.code ⟨"ChalkWars$City", "openRightward", "(I)I"⟩ prog_3_method_22_code 2 (some .int) ∈ kw := kw_of (ktb_2 (i := 212) rfl) rfl
theorem kwm_276 : Cond.static ⟨"ChalkWars$City", "openDownward", "(I)I"⟩ ∈ kw := kw_of (ktb_2 (i := 214) rfl) rfl
theorem kwm_277 : Cond.methodLink "ChalkWars$City" 176 ⟨"ChalkWars$City", "openDownward", "(I)I"⟩ ∈ kw := kw_of (ktb_2 (i := 213) rfl) rfl
theorem kwm_278 : Cond.code ⟨"ChalkWars$City", "openDownward", "(I)I"⟩ prog_3_method_23_code 1 (some .int) ∈ kw := kw_of (ktb_2 (i := 215) rfl) rfl
theorem kwm_279 : Cond.static ⟨"ChalkWars$City", "wider", "(III)I"⟩ ∈ kw := kw_of (ktb_2 (i := 217) rfl) rfl
theorem kwm_280 : Cond.methodLink "ChalkWars$City" 179 ⟨"ChalkWars$City", "wider", "(III)I"⟩ ∈ kw := kw_of (ktb_2 (i := 216) rfl) rfl
theorem kwm_281 : Cond.code ⟨"ChalkWars$City", "wider", "(III)I"⟩ prog_3_method_24_code 3 (some .int) ∈ kw := kw_of (ktb_2 (i := 218) rfl) rfl
theorem kwm_282 : Cond.instanceMethod ⟨"ChalkWars$Rubber", "<init>", "()V"⟩ ∈ kw := kw_of (ktb_1 (i := 234) rfl) rfl
theorem kwm_283 : Cond.methodLinkNest "ChalkWars$Dog" 1 ⟨"ChalkWars$Rubber", "<init>", "()V"⟩ "ChalkWars" ∈ kn := kn_of (ktb_2 (i := 8) rfl) rfl
theorem kwm_284 : Cond.code ⟨"ChalkWars$Rubber", "<init>", "()V"⟩ prog_10_method_1_code 1 none ∈ kw := kw_of (ktb_1 (i := 235) rfl) rfl
theorem kwm_285 : Cond.initialized "ChalkWars$Rubber" ∈ kw := kw_of (ktb_1 (i := 9) rfl) rfl
theorem kwm_286 : Cond.selects "ChalkWars$Dog" ⟨"ChalkWars$Dog", "begins", "(I)Z"⟩ ⟨"ChalkWars$Thing", "begins", "(I)Z"⟩ ∈ kw := kw_of (ktb_5 (i := 60) rfl) rfl
theorem kwm_287 : Cond.methodLink "ChalkWars$Dog" 7 ⟨"ChalkWars$Dog", "begins", "(I)Z"⟩ ∈ kw := kw_of (ktb_5 (i := 58) rfl) rfl
theorem kwm_288 : Cond.sameMethod "ChalkWars$Dog" "ChalkWars$Thing" "begins" "(I)Z" ∈ kw := kw_of (ktb_5 (i := 59) rfl) rfl
theorem kwm_289 : Cond.superclass "ChalkWars$Rubber" "ChalkWars$Thing" ∈ kw := kw_of (ktb_2 (i := 2) rfl) rfl
theorem kwm_290 : Cond.instanceMethod ⟨"ChalkWars$Thing", "shouts", "(I)I"⟩ ∈ kw := kw_of (ktb_5 (i := 52) rfl) rfl
theorem kwm_291 : Cond.methodLink "ChalkWars$Dog" 13 ⟨"ChalkWars$Rubber", "shouts", "(I)I"⟩ ∈ kw := kw_of (ktb_5 (i := 61) rfl) rfl
theorem kwm_292 : Cond.sameMethod "ChalkWars$Rubber" "ChalkWars$Thing" "shouts" "(I)I" ∈ kw := kw_of (ktb_5 (i := 62) rfl) rfl
theorem kwm_293 : Cond.superclass "ChalkWars$Dog" "ChalkWars$Rubber" ∈ kw := kw_of (ktb_2 (i := 14) rfl) rfl
theorem kwm_294 : Cond.code ⟨"ChalkWars$Thing", "shouts", "(I)I"⟩ prog_12_method_5_code 2 (some .int) ∈ kw := kw_of (ktb_5 (i := 74) rfl) rfl
theorem kwm_295 : Cond.instanceMethod ⟨"ChalkWars$Rubber", "parts", "(I)I"⟩ ∈ kw := kw_of (ktb_5 (i := 84) rfl) rfl
theorem kwm_296 : Cond.methodLink "ChalkWars$Dog" 17 ⟨"ChalkWars$Rubber", "parts", "(I)I"⟩ ∈ kw := kw_of (ktb_5 (i := 83) rfl) rfl
theorem kwm_297 : Cond.sameMethod "ChalkWars$Rubber" "ChalkWars$Rubber" "parts" "(I)I" ∈ kw := kw_of (ktb_7 (i := 237) rfl) rfl
theorem kwm_298 : Cond.code ⟨"ChalkWars$Rubber", "parts", "(I)I"⟩ prog_10_method_2_code 2 (some .int) ∈ kw := kw_of (ktb_5 (i := 85) rfl) rfl
theorem kwm_299 : Cond.declares ⟨"ChalkWars$Thing", "chalks", "(I)I"⟩ ∈ kn := kn_of (ktb_5 (i := 47) rfl) rfl
theorem kwm_300 : Cond.selects "ChalkWars$Dog" ⟨"ChalkWars$Dog", "chalks", "(I)I"⟩ ⟨"ChalkWars$Thing", "chalks", "(I)I"⟩ ∈ kw := kw_of (ktb_5 (i := 93) rfl) rfl
theorem kwm_301 : Cond.methodLink "ChalkWars$Dog" 24 ⟨"ChalkWars$Dog", "chalks", "(I)I"⟩ ∈ kw := kw_of (ktb_5 (i := 91) rfl) rfl
theorem kwm_302 : Cond.sameMethod "ChalkWars$Dog" "ChalkWars$Thing" "chalks" "(I)I" ∈ kw := kw_of (ktb_5 (i := 92) rfl) rfl
theorem kwm_303 : Cond.methodLinkNest "ChalkWars$General" 1 ⟨"ChalkWars$Thing", "<init>", "()V"⟩ "ChalkWars" ∈ kn := kn_of (ktb_1 (i := 212) rfl) rfl
theorem kwm_304 : Cond.selects "ChalkWars$General" ⟨"ChalkWars$General", "begins", "(I)Z"⟩ ⟨"ChalkWars$Thing", "begins", "(I)Z"⟩ ∈ kw := kw_of (ktb_5 (i := 69) rfl) rfl
theorem kwm_305 : Cond.methodLink "ChalkWars$General" 7 ⟨"ChalkWars$General", "begins", "(I)Z"⟩ ∈ kw := kw_of (ktb_5 (i := 67) rfl) rfl
theorem kwm_306 : Cond.sameMethod "ChalkWars$General" "ChalkWars$Thing" "begins" "(I)Z" ∈ kw := kw_of (ktb_5 (i := 68) rfl) rfl
theorem kwm_307 : Cond.selects "ChalkWars$Mother" ⟨"ChalkWars$General", "begins", "(I)Z"⟩ ⟨"ChalkWars$Thing", "begins", "(I)Z"⟩ ∈ kw := kw_of (ktb_5 (i := 70) rfl) rfl
theorem kwm_308 : Cond.methodLink "ChalkWars$General" 13 ⟨"ChalkWars$Thing", "shouts", "(I)I"⟩ ∈ kw := kw_of (ktb_5 (i := 71) rfl) rfl
theorem kwm_309 : Cond.sameMethod "ChalkWars$Thing" "ChalkWars$Thing" "shouts" "(I)I" ∈ kw := kw_of (ktb_5 (i := 53) rfl) rfl
theorem kwm_310 : Cond.superclass "ChalkWars$General" "ChalkWars$Thing" ∈ kw := kw_of (ktb_1 (i := 218) rfl) rfl
theorem kwm_311 : Cond.instanceMethod ⟨"ChalkWars$General", "<init>", "()V"⟩ ∈ kw := kw_of (ktb_1 (i := 210) rfl) rfl
theorem kwm_312 : Cond.methodLinkNest "ChalkWars$Mother" 1 ⟨"ChalkWars$General", "<init>", "()V"⟩ "ChalkWars" ∈ kn := kn_of (ktb_1 (i := 224) rfl) rfl
theorem kwm_313 : Cond.code ⟨"ChalkWars$General", "<init>", "()V"⟩ prog_5_method_1_code 1 none ∈ kw := kw_of (ktb_1 (i := 211) rfl) rfl
theorem kwm_314 : Cond.initialized "ChalkWars$General" ∈ kw := kw_of (ktb_1 (i := 7) rfl) rfl
theorem kwm_315 : Cond.selects "ChalkWars$Mother" ⟨"ChalkWars$Mother", "begins", "(I)Z"⟩ ⟨"ChalkWars$Thing", "begins", "(I)Z"⟩ ∈ kw := kw_of (ktb_5 (i := 44) rfl) rfl
theorem kwm_316 : Cond.methodLink "ChalkWars$Mother" 7 ⟨"ChalkWars$Mother", "begins", "(I)Z"⟩ ∈ kw := kw_of (ktb_5 (i := 42) rfl) rfl
theorem kwm_317 : Cond.sameMethod "ChalkWars$Mother" "ChalkWars$Thing" "begins" "(I)Z" ∈ kw := kw_of (ktb_5 (i := 43) rfl) rfl
theorem kwm_318 : Cond.methodLink "ChalkWars$Mother" 17 ⟨"ChalkWars$General", "chalks", "(I)I"⟩ ∈ kw := kw_of (ktb_5 (i := 45) rfl) rfl
theorem kwm_319 : Cond.sameMethod "ChalkWars$General" "ChalkWars$Thing" "chalks" "(I)I" ∈ kw := kw_of (ktb_5 (i := 46) rfl) rfl
theorem kwm_320 : Cond.superclass "ChalkWars$Mother" "ChalkWars$General" ∈ kw := kw_of (ktb_1 (i := 230) rfl) rfl
theorem kwm_321 : Cond.instanceMethod ⟨"ChalkWars$Thing", "wins", "(I)I"⟩ ∈ kw := kw_of (ktb_5 (i := 99) rfl) rfl
theorem kwm_322 : Cond.methodLink "ChalkWars$Mother" 21 ⟨"ChalkWars$General", "wins", "(I)I"⟩ ∈ kw := kw_of (ktb_5 (i := 107) rfl) rfl
theorem kwm_323 : Cond.sameMethod "ChalkWars$General" "ChalkWars$Thing" "wins" "(I)I" ∈ kw := kw_of (ktb_5 (i := 108) rfl) rfl
theorem kwm_324 : Cond.code ⟨"ChalkWars$Thing", "wins", "(I)I"⟩ prog_12_method_7_code 2 (some .int) ∈ kw := kw_of (ktb_5 (i := 115) rfl) rfl
theorem kwm_325 : Cond.declares ⟨"ChalkWars$General", "shouts", "(I)I"⟩ ∈ kn := kn_of (ktb_5 (i := 112) rfl) rfl
theorem kwm_326 : Cond.instanceMethod ⟨"ChalkWars$General", "shouts", "(I)I"⟩ ∈ kw := kw_of (ktb_5 (i := 65) rfl) rfl
theorem kwm_327 : Cond.selects "ChalkWars$Mother" ⟨"ChalkWars$Mother", "shouts", "(I)I"⟩ ⟨"ChalkWars$General", "shouts", "(I)I"⟩ ∈ kw := kw_of (ktb_5 (i := 113) rfl) rfl
theorem kwm_328 : Cond.methodLink "ChalkWars$Mother" 27 ⟨"ChalkWars$Mother", "shouts", "(I)I"⟩ ∈ kw := kw_of (ktb_5 (i := 110) rfl) rfl
theorem kwm_329 : Cond.sameMethod "ChalkWars$Mother" "ChalkWars$General" "shouts" "(I)I" ∈ kw := kw_of (ktb_5 (i := 111) rfl) rfl
theorem kwm_330 : Cond.code ⟨"ChalkWars$General", "shouts", "(I)I"⟩ prog_5_method_2_code 2 (some .int) ∈ kw := kw_of (ktb_5 (i := 66) rfl) rfl
theorem kwm_331 : Cond.methodLink "ChalkWars$Plans" 3 ⟨"java/lang/Object", "<init>", "()V"⟩ ∈ kw := kw_of (ktb_1 (i := 95) rfl) rfl
theorem kwm_332 : Cond.instanceMethod ⟨"ChalkWars$City", "<init>", "()V"⟩ ∈ kw := kw_of (ktb_1 (i := 32) rfl) rfl
theorem kwm_333 : Cond.methodLinkNest "ChalkWars$Plans" 24 ⟨"ChalkWars$City", "<init>", "()V"⟩ "ChalkWars" ∈ kn := kn_of (ktb_1 (i := 98) rfl) rfl
theorem kwm_334 : Cond.code ⟨"ChalkWars$City", "<init>", "()V"⟩ prog_3_method_1_code 1 none ∈ kw := kw_of (ktb_1 (i := 33) rfl) rfl
theorem kwm_335 : Cond.methodLink "ChalkWars$Plans" 25 ⟨"java/lang/Math", "min", "(II)I"⟩ ∈ kw := kw_of (ktb_4 (i := 33) rfl) rfl
theorem kwm_336 : Cond.static ⟨"java/lang/Math", "min", "(II)I"⟩ ∈ kw := kw_of (ktb_4 (i := 34) rfl) rfl
theorem kwm_337 : Cond.code ⟨"java/lang/Math", "min", "(II)I"⟩ prog_16_method_69_code 2 (some .int) ∈ kw := kw_of (ktb_4 (i := 35) rfl) rfl
theorem kwm_338 : Cond.initialized "java/lang/Math" ∈ kw := kw_of (ktb_1 (i := 13) rfl) rfl
theorem kwm_339 : Cond.methodLink "ChalkWars$Plans" 38 ⟨"java/lang/Math", "max", "(II)I"⟩ ∈ kw := kw_of (ktb_4 (i := 36) rfl) rfl
theorem kwm_340 : Cond.static ⟨"java/lang/Math", "max", "(II)I"⟩ ∈ kw := kw_of (ktb_2 (i := 237) rfl) rfl
theorem kwm_341 : Cond.code ⟨"java/lang/Math", "max", "(II)I"⟩ prog_16_method_65_code 2 (some .int) ∈ kw := kw_of (ktb_2 (i := 238) rfl) rfl
theorem kwm_342 : Cond.instanceMethod ⟨"ChalkWars$City", "copyFrom", "(LChalkWars$City;)V"⟩ ∈ kw := kw_of (ktb_3 (i := 203) rfl) rfl
theorem kwm_343 : Cond.selects "ChalkWars$City" ⟨"ChalkWars$City", "copyFrom", "(LChalkWars$City;)V"⟩ ⟨"ChalkWars$City", "copyFrom", "(LChalkWars$City;)V"⟩ ∈ kw := kw_of (kpv_3 (q := (⟨"ChalkWars$City", "copyFrom", "(LChalkWars$City;)V"⟩, 13)) (i := 7) rfl) rfl
theorem kwm_344 : Cond.methodLinkNest "ChalkWars$Plans" 44 ⟨"ChalkWars$City", "copyFrom", "(LChalkWars$City;)V"⟩ "ChalkWars" ∈ kn := kn_of (ktb_4 (i := 37) rfl) rfl
theorem kwm_345 : Cond.code ⟨"ChalkWars$City", "copyFrom", "(LChalkWars$City;)V"⟩ prog_3_method_2_code 2 none ∈ kw := kw_of (ktb_3 (i := 204) rfl) rfl
theorem kwm_346 : Cond.instanceMethod ⟨"ChalkWars$Plans", "begin", "(LChalkWars$City;I)V"⟩ ∈ kw := kw_of (ktb_4 (i := 31) rfl) rfl
theorem kwm_347 : Cond.selects "ChalkWars$Plans" ⟨"ChalkWars$Plans", "begin", "(LChalkWars$City;I)V"⟩ ⟨"ChalkWars$Plans", "begin", "(LChalkWars$City;I)V"⟩ ∈ kw := kw_of (kpv_3 (q := (⟨"ChalkWars$Plans", "begin", "(LChalkWars$City;I)V"⟩, 10)) (i := 12) rfl) rfl
theorem kwm_348 : Cond.methodLink "ChalkWars$Plans" 48 ⟨"ChalkWars$Plans", "begin", "(LChalkWars$City;I)V"⟩ ∈ kw := kw_of (ktb_4 (i := 29) rfl) rfl
theorem kwm_349 : Cond.code ⟨"ChalkWars$Plans", "begin", "(LChalkWars$City;I)V"⟩ prog_7_method_2_code 3 none ∈ kw := kw_of (ktb_4 (i := 32) rfl) rfl
theorem kwm_350 : Cond.initialized "ChalkWars$Plans" ∈ kw := kw_of (ktb_1 (i := 3) rfl) rfl
theorem kwm_351 : Cond.methodLinkNest "ChalkWars$Plans" 67 ⟨"ChalkWars$City", "shutCells", "()I"⟩ "ChalkWars" ∈ kn := kn_of (ktb_4 (i := 38) rfl) rfl
theorem kwm_352 : Cond.instanceMethod ⟨"ChalkWars$Plans", "branch", "(IIII)V"⟩ ∈ kw := kw_of (ktb_4 (i := 41) rfl) rfl
theorem kwm_353 : Cond.selects "ChalkWars$Plans" ⟨"ChalkWars$Plans", "branch", "(IIII)V"⟩ ⟨"ChalkWars$Plans", "branch", "(IIII)V"⟩ ∈ kw := kw_of (kpv_3 (q := (⟨"ChalkWars$Plans", "branch", "(IIII)V"⟩, 10)) (i := 13) rfl) rfl
theorem kwm_354 : Cond.methodLink "ChalkWars$Plans" 71 ⟨"ChalkWars$Plans", "branch", "(IIII)V"⟩ ∈ kw := kw_of (ktb_4 (i := 39) rfl) rfl
theorem kwm_355 : Cond.code ⟨"ChalkWars$Plans", "branch", "(IIII)V"⟩ prog_7_method_4_code 9 none ∈ kw := kw_of (ktb_4 (i := 42) rfl) rfl
theorem kwm_356 : Cond.instanceMethod ⟨"ChalkWars$Plans", "weigh", "(III)V"⟩ ∈ kw := kw_of (ktb_4 (i := 45) rfl) rfl
theorem kwm_357 : Cond.selects "ChalkWars$Plans" ⟨"ChalkWars$Plans", "weigh", "(III)V"⟩ ⟨"ChalkWars$Plans", "weigh", "(III)V"⟩ ∈ kw := kw_of (kpv_3 (q := (⟨"ChalkWars$Plans", "weigh", "(III)V"⟩, 10)) (i := 14) rfl) rfl
theorem kwm_358 : Cond.methodLink "ChalkWars$Plans" 75 ⟨"ChalkWars$Plans", "weigh", "(III)V"⟩ ∈ kw := kw_of (ktb_4 (i := 43) rfl) rfl
theorem kwm_359 : Cond.code ⟨"ChalkWars$Plans", "weigh", "(III)V"⟩ prog_7_method_5_code 4 none ∈ kw := kw_of (ktb_4 (i := 46) rfl) rfl
theorem kwm_360 : Cond.methodLinkNest "ChalkWars$Plans" 79 ⟨"ChalkWars$City", "walkAll", "()V"⟩ "ChalkWars" ∈ kn := kn_of (ktb_4 (i := 48) rfl) rfl
theorem kwm_361 : Cond.methodLinkNest "ChalkWars$Plans" 85 ⟨"ChalkWars$City", "settle", "(I)I"⟩ "ChalkWars" ∈ kn := kn_of (ktb_4 (i := 49) rfl) rfl
theorem kwm_362 : Cond.methodLink "ChalkWars$Plans" 89 ⟨"java/lang/Integer", "bitCount", "(I)I"⟩ ∈ kw := kw_of (ktb_4 (i := 50) rfl) rfl
theorem kwm_363 : Cond.methodLink "ChalkWars$Plans" 94 ⟨"java/lang/System", "arraycopy", "(Ljava/lang/Object;ILjava/lang/Object;II)V"⟩ ∈ kw := kw_of (ktb_4 (i := 47) rfl) rfl
theorem kwm_364 : Cond.instanceMethod ⟨"ChalkWars$Plans", "valueAt", "(I)I"⟩ ∈ kw := kw_of (ktb_4 (i := 80) rfl) rfl
theorem kwm_365 : Cond.selects "ChalkWars$Plans" ⟨"ChalkWars$Plans", "valueAt", "(I)I"⟩ ⟨"ChalkWars$Plans", "valueAt", "(I)I"⟩ ∈ kw := kw_of (kpv_4 (q := (⟨"ChalkWars$Plans", "valueAt", "(I)I"⟩, 10)) (i := 0) rfl) rfl
theorem kwm_366 : Cond.methodLink "ChalkWars$Plans" 103 ⟨"ChalkWars$Plans", "valueAt", "(I)I"⟩ ∈ kw := kw_of (ktb_4 (i := 78) rfl) rfl
theorem kwm_367 : Cond.code ⟨"ChalkWars$Plans", "valueAt", "(I)I"⟩ prog_7_method_7_code 8 (some .int) ∈ kw := kw_of (ktb_4 (i := 81) rfl) rfl
theorem kwm_368 : Cond.methodLink "ChalkWars$Reader" 3 ⟨"java/lang/Object", "<init>", "()V"⟩ ∈ kw := kw_of (ktb_1 (i := 142) rfl) rfl
theorem kwm_369 : Cond.instanceMethod ⟨"ChalkWars$Reader", "tokenHere", "()I"⟩ ∈ kw := kw_of (ktb_3 (i := 30) rfl) rfl
theorem kwm_370 : Cond.selects "ChalkWars$Reader" ⟨"ChalkWars$Reader", "tokenHere", "()I"⟩ ⟨"ChalkWars$Reader", "tokenHere", "()I"⟩ ∈ kw := kw_of (kpv_2 (q := (⟨"ChalkWars$Reader", "tokenHere", "()I"⟩, 7)) (i := 2) rfl) rfl
theorem kwm_371 : Cond.methodLink "ChalkWars$Reader" 29 ⟨"ChalkWars$Reader", "tokenHere", "()I"⟩ ∈ kw := kw_of (ktb_3 (i := 28) rfl) rfl
theorem kwm_372 : Cond.code ⟨"ChalkWars$Reader", "tokenHere", "()I"⟩ prog_8_method_4_code 2 (some .int) ∈ kw := kw_of (ktb_3 (i := 31) rfl) rfl
theorem kwm_373 : Cond.initialized "ChalkWars$Reader" ∈ kw := kw_of (ktb_1 (i := 4) rfl) rfl
theorem kwm_374 : Cond.static ⟨"ChalkWars$Reader", "isLetter", "(I)Z"⟩ ∈ kw := kw_of (ktb_3 (i := 33) rfl) rfl
theorem kwm_375 : Cond.methodLink "ChalkWars$Reader" 39 ⟨"ChalkWars$Reader", "isLetter", "(I)Z"⟩ ∈ kw := kw_of (ktb_3 (i := 32) rfl) rfl
theorem kwm_376 : Cond.code ⟨"ChalkWars$Reader", "isLetter", "(I)Z"⟩ prog_8_method_8_code 1 (some .boolean) ∈ kw := kw_of (ktb_3 (i := 34) rfl) rfl
theorem kwm_377 : Cond.instanceMethod ⟨"ChalkWars$Reader", "nameHere", "()I"⟩ ∈ kw := kw_of (ktb_3 (i := 37) rfl) rfl
theorem kwm_378 : Cond.selects "ChalkWars$Reader" ⟨"ChalkWars$Reader", "nameHere", "()I"⟩ ⟨"ChalkWars$Reader", "nameHere", "()I"⟩ ∈ kw := kw_of (kpv_2 (q := (⟨"ChalkWars$Reader", "nameHere", "()I"⟩, 7)) (i := 3) rfl) rfl
theorem kwm_379 : Cond.methodLink "ChalkWars$Reader" 43 ⟨"ChalkWars$Reader", "nameHere", "()I"⟩ ∈ kw := kw_of (ktb_3 (i := 35) rfl) rfl
theorem kwm_380 : Cond.code ⟨"ChalkWars$Reader", "nameHere", "()I"⟩ prog_8_method_5_code 2 (some .int) ∈ kw := kw_of (ktb_3 (i := 38) rfl) rfl
theorem kwm_381 : Cond.static ⟨"ChalkWars$Reader", "isDigit", "(I)Z"⟩ ∈ kw := kw_of (ktb_3 (i := 93) rfl) rfl
theorem kwm_382 : Cond.methodLink "ChalkWars$Reader" 46 ⟨"ChalkWars$Reader", "isDigit", "(I)Z"⟩ ∈ kw := kw_of (ktb_3 (i := 92) rfl) rfl
theorem kwm_383 : Cond.code ⟨"ChalkWars$Reader", "isDigit", "(I)Z"⟩ prog_8_method_9_code 1 (some .boolean) ∈ kw := kw_of (ktb_3 (i := 94) rfl) rfl
theorem kwm_384 : Cond.instanceMethod ⟨"ChalkWars$Reader", "numberHere", "()I"⟩ ∈ kw := kw_of (ktb_3 (i := 97) rfl) rfl
theorem kwm_385 : Cond.selects "ChalkWars$Reader" ⟨"ChalkWars$Reader", "numberHere", "()I"⟩ ⟨"ChalkWars$Reader", "numberHere", "()I"⟩ ∈ kw := kw_of (kpv_2 (q := (⟨"ChalkWars$Reader", "numberHere", "()I"⟩, 7)) (i := 5) rfl) rfl
theorem kwm_386 : Cond.methodLink "ChalkWars$Reader" 49 ⟨"ChalkWars$Reader", "numberHere", "()I"⟩ ∈ kw := kw_of (ktb_3 (i := 95) rfl) rfl
theorem kwm_387 : Cond.code ⟨"ChalkWars$Reader", "numberHere", "()I"⟩ prog_8_method_6_code 3 (some .int) ∈ kw := kw_of (ktb_3 (i := 98) rfl) rfl
theorem kwm_388 : Cond.static ⟨"ChalkWars$Reader", "signFor", "(I)I"⟩ ∈ kw := kw_of (ktb_3 (i := 100) rfl) rfl
theorem kwm_389 : Cond.methodLink "ChalkWars$Reader" 52 ⟨"ChalkWars$Reader", "signFor", "(I)I"⟩ ∈ kw := kw_of (ktb_3 (i := 99) rfl) rfl
theorem kwm_390 : Cond.code ⟨"ChalkWars$Reader", "signFor", "(I)I"⟩ prog_8_method_10_code 1 (some .int) ∈ kw := kw_of (ktb_3 (i := 101) rfl) rfl
theorem kwm_391 : Cond.instanceMethod ⟨"ChalkWars$Reader", "nameFrom", "(II)I"⟩ ∈ kw := kw_of (ktb_3 (i := 41) rfl) rfl
theorem kwm_392 : Cond.selects "ChalkWars$Reader" ⟨"ChalkWars$Reader", "nameFrom", "(II)I"⟩ ⟨"ChalkWars$Reader", "nameFrom", "(II)I"⟩ ∈ kw := kw_of (kpv_2 (q := (⟨"ChalkWars$Reader", "nameFrom", "(II)I"⟩, 7)) (i := 4) rfl) rfl
theorem kwm_393 : Cond.methodLink "ChalkWars$Reader" 56 ⟨"ChalkWars$Reader", "nameFrom", "(II)I"⟩ ∈ kw := kw_of (ktb_3 (i := 39) rfl) rfl
theorem kwm_394 : Cond.code ⟨"ChalkWars$Reader", "nameFrom", "(II)I"⟩ prog_8_method_7_code 8 (some .int) ∈ kw := kw_of (ktb_3 (i := 42) rfl) rfl
theorem kwm_395 : Cond.instanceMethod ⟨"java/lang/String", "length", "()I"⟩ ∈ kw := kw_of (ktb_3 (i := 45) rfl) rfl
theorem kwm_396 : Cond.selects "java/lang/String" ⟨"java/lang/String", "length", "()I"⟩ ⟨"java/lang/String", "length", "()I"⟩ ∈ kw := kw_of (ktb_3 (i := 46) rfl) rfl
theorem kwm_397 : Cond.methodLink "ChalkWars$Reader" 62 ⟨"java/lang/String", "length", "()I"⟩ ∈ kw := kw_of (ktb_3 (i := 44) rfl) rfl
theorem kwm_398 : Cond.code ⟨"java/lang/String", "length", "()I"⟩ prog_17_method_54_code 1 (some .int) ∈ kw := kw_of (ktb_3 (i := 47) rfl) rfl
theorem kwm_399 : Cond.initialized "java/lang/String" ∈ kw := kw_of (ktb_1 (i := 14) rfl) rfl
theorem kwm_400 : Cond.instanceMethod ⟨"java/lang/String", "charAt", "(I)C"⟩ ∈ kw := kw_of (ktb_3 (i := 55) rfl) rfl
theorem kwm_401 : Cond.selects "java/lang/String" ⟨"java/lang/String", "charAt", "(I)C"⟩ ⟨"java/lang/String", "charAt", "(I)C"⟩ ∈ kw := kw_of (ktb_3 (i := 56) rfl) rfl
theorem kwm_402 : Cond.methodLink "ChalkWars$Reader" 67 ⟨"java/lang/String", "charAt", "(I)C"⟩ ∈ kw := kw_of (ktb_3 (i := 54) rfl) rfl
theorem kwm_403 : Cond.code ⟨"java/lang/String", "charAt", "(I)C"⟩ prog_17_method_56_code 2 (some .char) ∈ kw := kw_of (ktb_3 (i := 57) rfl) rfl
theorem kwm_404 : Cond.instanceMethod ⟨"ChalkWars$Reader", "readsRule", "(LChalkWars$Rules;)Z"⟩ ∈ kw := kw_of (ktb_3 (i := 108) rfl) rfl
theorem kwm_405 : Cond.selects "ChalkWars$Reader" ⟨"ChalkWars$Reader", "readsRule", "(LChalkWars$Rules;)Z"⟩ ⟨"ChalkWars$Reader", "readsRule", "(LChalkWars$Rules;)Z"⟩ ∈ kw := kw_of (kpv_2 (q := (⟨"ChalkWars$Reader", "readsRule", "(LChalkWars$Rules;)Z"⟩, 7)) (i := 7) rfl) rfl
theorem kwm_406 : Cond.methodLink "ChalkWars$Reader" 71 ⟨"ChalkWars$Reader", "readsRule", "(LChalkWars$Rules;)Z"⟩ ∈ kw := kw_of (ktb_3 (i := 106) rfl) rfl
theorem kwm_407 : Cond.code ⟨"ChalkWars$Reader", "readsRule", "(LChalkWars$Rules;)Z"⟩ prog_8_method_14_code 4 (some .boolean) ∈ kw := kw_of (ktb_3 (i := 109) rfl) rfl
theorem kwm_408 : Cond.instanceMethod ⟨"ChalkWars$Reader", "goOn", "()V"⟩ ∈ kw := kw_of (ktb_3 (i := 112) rfl) rfl
theorem kwm_409 : Cond.selects "ChalkWars$Reader" ⟨"ChalkWars$Reader", "goOn", "()V"⟩ ⟨"ChalkWars$Reader", "goOn", "()V"⟩ ∈ kw := kw_of (kpv_2 (q := (⟨"ChalkWars$Reader", "goOn", "()V"⟩, 7)) (i := 8) rfl) rfl
theorem kwm_410 : Cond.methodLink "ChalkWars$Reader" 75 ⟨"ChalkWars$Reader", "goOn", "()V"⟩ ∈ kw := kw_of (ktb_3 (i := 110) rfl) rfl
theorem kwm_411 : Cond.code ⟨"ChalkWars$Reader", "goOn", "()V"⟩ prog_8_method_12_code 1 none ∈ kw := kw_of (ktb_3 (i := 113) rfl) rfl
theorem kwm_412 : Cond.instanceMethod ⟨"ChalkWars$Reader", "readsCondition", "(LChalkWars$Rules;I)Z"⟩ ∈ kw := kw_of (ktb_3 (i := 116) rfl) rfl
theorem kwm_413 : Cond.selects "ChalkWars$Reader" ⟨"ChalkWars$Reader", "readsCondition", "(LChalkWars$Rules;I)Z"⟩ ⟨"ChalkWars$Reader", "readsCondition", "(LChalkWars$Rules;I)Z"⟩ ∈ kw := kw_of (kpv_2 (q := (⟨"ChalkWars$Reader", "readsCondition", "(LChalkWars$Rules;I)Z"⟩, 7)) (i := 9) rfl) rfl
theorem kwm_414 : Cond.methodLink "ChalkWars$Reader" 78 ⟨"ChalkWars$Reader", "readsCondition", "(LChalkWars$Rules;I)Z"⟩ ∈ kw := kw_of (ktb_3 (i := 114) rfl) rfl
theorem kwm_415 : Cond.code ⟨"ChalkWars$Reader", "readsCondition", "(LChalkWars$Rules;I)Z"⟩ prog_8_method_15_code 4 (some .boolean) ∈ kw := kw_of (ktb_3 (i := 117) rfl) rfl
theorem kwm_416 : Cond.instanceMethod ⟨"ChalkWars$Rules", "close", "(II)V"⟩ ∈ kw := kw_of (ktb_3 (i := 147) rfl) rfl
theorem kwm_417 : Cond.selects "ChalkWars$Rules" ⟨"ChalkWars$Rules", "close", "(II)V"⟩ ⟨"ChalkWars$Rules", "close", "(II)V"⟩ ∈ kw := kw_of (kpv_3 (q := (⟨"ChalkWars$Rules", "close", "(II)V"⟩, 6)) (i := 0) rfl) rfl
theorem kwm_418 : Cond.methodLinkNest "ChalkWars$Reader" 82 ⟨"ChalkWars$Rules", "close", "(II)V"⟩ "ChalkWars" ∈ kn := kn_of (ktb_3 (i := 145) rfl) rfl
theorem kwm_419 : Cond.code ⟨"ChalkWars$Rules", "close", "(II)V"⟩ prog_11_method_5_code 3 none ∈ kw := kw_of (ktb_3 (i := 148) rfl) rfl
theorem kwm_420 : Cond.instanceMethod ⟨"ChalkWars$Reader", "readsEach", "(LChalkWars$Rules;I)Z"⟩ ∈ kw := kw_of (ktb_3 (i := 120) rfl) rfl
theorem kwm_421 : Cond.selects "ChalkWars$Reader" ⟨"ChalkWars$Reader", "readsEach", "(LChalkWars$Rules;I)Z"⟩ ⟨"ChalkWars$Reader", "readsEach", "(LChalkWars$Rules;I)Z"⟩ ∈ kw := kw_of (kpv_2 (q := (⟨"ChalkWars$Reader", "readsEach", "(LChalkWars$Rules;I)Z"⟩, 7)) (i := 10) rfl) rfl
theorem kwm_422 : Cond.methodLink "ChalkWars$Reader" 88 ⟨"ChalkWars$Reader", "readsEach", "(LChalkWars$Rules;I)Z"⟩ ∈ kw := kw_of (ktb_3 (i := 118) rfl) rfl
theorem kwm_423 : Cond.code ⟨"ChalkWars$Reader", "readsEach", "(LChalkWars$Rules;I)Z"⟩ prog_8_method_16_code 4 (some .boolean) ∈ kw := kw_of (ktb_3 (i := 121) rfl) rfl
theorem kwm_424 : Cond.instanceMethod ⟨"ChalkWars$Rules", "emit", "(I)V"⟩ ∈ kw := kw_of (ktb_3 (i := 143) rfl) rfl
theorem kwm_425 : Cond.selects "ChalkWars$Rules" ⟨"ChalkWars$Rules", "emit", "(I)V"⟩ ⟨"ChalkWars$Rules", "emit", "(I)V"⟩ ∈ kw := kw_of (kpv_2 (q := (⟨"ChalkWars$Rules", "emit", "(I)V"⟩, 6)) (i := 15) rfl) rfl
theorem kwm_426 : Cond.methodLinkNest "ChalkWars$Reader" 91 ⟨"ChalkWars$Rules", "emit", "(I)V"⟩ "ChalkWars" ∈ kn := kn_of (ktb_3 (i := 141) rfl) rfl
theorem kwm_427 : Cond.code ⟨"ChalkWars$Rules", "emit", "(I)V"⟩ prog_11_method_2_code 2 none ∈ kw := kw_of (ktb_3 (i := 144) rfl) rfl
theorem kwm_428 : Cond.instanceMethod ⟨"ChalkWars$Reader", "readsOne", "(LChalkWars$Rules;I)Z"⟩ ∈ kw := kw_of (ktb_3 (i := 124) rfl) rfl
theorem kwm_429 : Cond.selects "ChalkWars$Reader" ⟨"ChalkWars$Reader", "readsOne", "(LChalkWars$Rules;I)Z"⟩ ⟨"ChalkWars$Reader", "readsOne", "(LChalkWars$Rules;I)Z"⟩ ∈ kw := kw_of (kpv_2 (q := (⟨"ChalkWars$Reader", "readsOne", "(LChalkWars$Rules;I)Z"⟩, 7)) (i := 11) rfl) rfl
theorem kwm_430 : Cond.methodLink "ChalkWars$Reader" 95 ⟨"ChalkWars$Reader", "readsOne", "(LChalkWars$Rules;I)Z"⟩ ∈ kw := kw_of (ktb_3 (i := 122) rfl) rfl
theorem kwm_431 : Cond.code ⟨"ChalkWars$Reader", "readsOne", "(LChalkWars$Rules;I)Z"⟩ prog_8_method_17_code 5 (some .boolean) ∈ kw := kw_of (ktb_3 (i := 125) rfl) rfl
theorem kwm_432 : Cond.instanceMethod ⟨"ChalkWars$Reader", "readsWithin", "(LChalkWars$Rules;I)Z"⟩ ∈ kw := kw_of (ktb_3 (i := 128) rfl) rfl
theorem kwm_433 : Cond.selects "ChalkWars$Reader" ⟨"ChalkWars$Reader", "readsWithin", "(LChalkWars$Rules;I)Z"⟩ ⟨"ChalkWars$Reader", "readsWithin", "(LChalkWars$Rules;I)Z"⟩ ∈ kw := kw_of (kpv_2 (q := (⟨"ChalkWars$Reader", "readsWithin", "(LChalkWars$Rules;I)Z"⟩, 7)) (i := 12) rfl) rfl
theorem kwm_434 : Cond.methodLink "ChalkWars$Reader" 98 ⟨"ChalkWars$Reader", "readsWithin", "(LChalkWars$Rules;I)Z"⟩ ∈ kw := kw_of (ktb_3 (i := 126) rfl) rfl
theorem kwm_435 : Cond.code ⟨"ChalkWars$Reader", "readsWithin", "(LChalkWars$Rules;I)Z"⟩ prog_8_method_18_code 3 (some .boolean) ∈ kw := kw_of (ktb_3 (i := 129) rfl) rfl
theorem kwm_436 : Cond.instanceMethod ⟨"ChalkWars$Reader", "readsComparison", "(LChalkWars$Rules;)Z"⟩ ∈ kw := kw_of (ktb_3 (i := 132) rfl) rfl
theorem kwm_437 : Cond.selects "ChalkWars$Reader" ⟨"ChalkWars$Reader", "readsComparison", "(LChalkWars$Rules;)Z"⟩ ⟨"ChalkWars$Reader", "readsComparison", "(LChalkWars$Rules;)Z"⟩ ∈ kw := kw_of (kpv_2 (q := (⟨"ChalkWars$Reader", "readsComparison", "(LChalkWars$Rules;)Z"⟩, 7)) (i := 13) rfl) rfl
theorem kwm_438 : Cond.methodLink "ChalkWars$Reader" 101 ⟨"ChalkWars$Reader", "readsComparison", "(LChalkWars$Rules;)Z"⟩ ∈ kw := kw_of (ktb_3 (i := 130) rfl) rfl
theorem kwm_439 : Cond.code ⟨"ChalkWars$Reader", "readsComparison", "(LChalkWars$Rules;)Z"⟩ prog_8_method_19_code 5 (some .boolean) ∈ kw := kw_of (ktb_3 (i := 133) rfl) rfl
theorem kwm_440 : Cond.instanceMethod ⟨"ChalkWars$Reader", "valueAhead", "()I"⟩ ∈ kw := kw_of (ktb_3 (i := 136) rfl) rfl
theorem kwm_441 : Cond.selects "ChalkWars$Reader" ⟨"ChalkWars$Reader", "valueAhead", "()I"⟩ ⟨"ChalkWars$Reader", "valueAhead", "()I"⟩ ∈ kw := kw_of (kpv_2 (q := (⟨"ChalkWars$Reader", "valueAhead", "()I"⟩, 7)) (i := 14) rfl) rfl
theorem kwm_442 : Cond.methodLink "ChalkWars$Reader" 104 ⟨"ChalkWars$Reader", "valueAhead", "()I"⟩ ∈ kw := kw_of (ktb_3 (i := 134) rfl) rfl
theorem kwm_443 : Cond.code ⟨"ChalkWars$Reader", "valueAhead", "()I"⟩ prog_8_method_20_code 1 (some .int) ∈ kw := kw_of (ktb_3 (i := 137) rfl) rfl
theorem kwm_444 : Cond.static ⟨"ChalkWars$Rules", "comparison", "(III)I"⟩ ∈ kw := kw_of (ktb_3 (i := 139) rfl) rfl
theorem kwm_445 : Cond.methodLinkNest "ChalkWars$Reader" 107 ⟨"ChalkWars$Rules", "comparison", "(III)I"⟩ "ChalkWars" ∈ kn := kn_of (ktb_3 (i := 138) rfl) rfl
theorem kwm_446 : Cond.code ⟨"ChalkWars$Rules", "comparison", "(III)I"⟩ prog_11_method_3_code 3 (some .int) ∈ kw := kw_of (ktb_3 (i := 140) rfl) rfl
theorem kwm_447 : Cond.methodLink "ChalkWars$Report" 1 ⟨"java/lang/Object", "<init>", "()V"⟩ ∈ kw := kw_of (ktb_4 (i := 99) rfl) rfl
theorem kwm_448 : Cond.methodLinkNest "ChalkWars$Rubber" 1 ⟨"ChalkWars$Thing", "<init>", "()V"⟩ "ChalkWars" ∈ kn := kn_of (ktb_1 (i := 236) rfl) rfl
theorem kwm_449 : Cond.selects "ChalkWars$Dog" ⟨"ChalkWars$Rubber", "begins", "(I)Z"⟩ ⟨"ChalkWars$Thing", "begins", "(I)Z"⟩ ∈ kw := kw_of (ktb_5 (i := 88) rfl) rfl
theorem kwm_450 : Cond.methodLink "ChalkWars$Rubber" 7 ⟨"ChalkWars$Rubber", "begins", "(I)Z"⟩ ∈ kw := kw_of (ktb_5 (i := 86) rfl) rfl
theorem kwm_451 : Cond.sameMethod "ChalkWars$Rubber" "ChalkWars$Thing" "begins" "(I)Z" ∈ kw := kw_of (ktb_5 (i := 87) rfl) rfl
theorem kwm_452 : Cond.selects "ChalkWars$Rubber" ⟨"ChalkWars$Rubber", "begins", "(I)Z"⟩ ⟨"ChalkWars$Thing", "begins", "(I)Z"⟩ ∈ kw := kw_of (ktb_5 (i := 89) rfl) rfl
theorem kwm_453 : Cond.instanceMethod ⟨"ChalkWars$Thing", "parts", "(I)I"⟩ ∈ kw := kw_of (ktb_5 (i := 77) rfl) rfl
theorem kwm_454 : Cond.methodLink "ChalkWars$Rubber" 13 ⟨"ChalkWars$Thing", "parts", "(I)I"⟩ ∈ kw := kw_of (ktb_5 (i := 90) rfl) rfl
theorem kwm_455 : Cond.sameMethod "ChalkWars$Thing" "ChalkWars$Thing" "parts" "(I)I" ∈ kw := kw_of (ktb_5 (i := 78) rfl) rfl
theorem kwm_456 : Cond.code ⟨"ChalkWars$Thing", "parts", "(I)I"⟩ prog_12_method_6_code 3 (some .int) ∈ kw := kw_of (ktb_5 (i := 97) rfl) rfl
theorem kwm_457 : Cond.methodLink "ChalkWars$Rules" 5 ⟨"java/lang/Object", "<init>", "()V"⟩ ∈ kw := kw_of (ktb_2 (i := 235) rfl) rfl
theorem kwm_458 : Cond.methodLink "ChalkWars$Rules" 21 ⟨"java/lang/Math", "max", "(II)I"⟩ ∈ kw := kw_of (ktb_2 (i := 236) rfl) rfl
theorem kwm_459 : Cond.methodLink "ChalkWars$Thing" 3 ⟨"java/lang/Object", "<init>", "()V"⟩ ∈ kw := kw_of (ktb_1 (i := 179) rfl) rfl
theorem kwm_460 : Cond.selects "ChalkWars$Child" ⟨"ChalkWars$Thing", "begins", "(I)Z"⟩ ⟨"ChalkWars$Thing", "begins", "(I)Z"⟩ ∈ kw := kw_of (ktb_7 (i := 232) rfl) rfl
theorem kwm_461 : Cond.methodLink "ChalkWars$Thing" 29 ⟨"ChalkWars$Thing", "begins", "(I)Z"⟩ ∈ kw := kw_of (ktb_5 (i := 50) rfl) rfl
theorem kwm_462 : Cond.selects "ChalkWars$Dog" ⟨"ChalkWars$Thing", "begins", "(I)Z"⟩ ⟨"ChalkWars$Thing", "begins", "(I)Z"⟩ ∈ kw := kw_of (ktb_7 (i := 233) rfl) rfl
theorem kwm_463 : Cond.selects "ChalkWars$General" ⟨"ChalkWars$Thing", "begins", "(I)Z"⟩ ⟨"ChalkWars$Thing", "begins", "(I)Z"⟩ ∈ kw := kw_of (ktb_7 (i := 234) rfl) rfl
theorem kwm_464 : Cond.selects "ChalkWars$Mother" ⟨"ChalkWars$Thing", "begins", "(I)Z"⟩ ⟨"ChalkWars$Thing", "begins", "(I)Z"⟩ ∈ kw := kw_of (ktb_7 (i := 235) rfl) rfl
theorem kwm_465 : Cond.selects "ChalkWars$Rubber" ⟨"ChalkWars$Thing", "begins", "(I)Z"⟩ ⟨"ChalkWars$Thing", "begins", "(I)Z"⟩ ∈ kw := kw_of (ktb_7 (i := 236) rfl) rfl
theorem kwm_466 : Cond.instanceMethod ⟨"ChalkWars$Child", "chalks", "(I)I"⟩ ∈ kw := kw_of (ktb_5 (i := 28) rfl) rfl
theorem kwm_467 : Cond.selects "ChalkWars$Child" ⟨"ChalkWars$Thing", "chalks", "(I)I"⟩ ⟨"ChalkWars$Child", "chalks", "(I)I"⟩ ∈ kw := kw_of (ktb_5 (i := 27) rfl) rfl
theorem kwm_468 : Cond.methodLink "ChalkWars$Thing" 33 ⟨"ChalkWars$Thing", "chalks", "(I)I"⟩ ∈ kw := kw_of (ktb_5 (i := 75) rfl) rfl
theorem kwm_469 : Cond.code ⟨"ChalkWars$Child", "chalks", "(I)I"⟩ prog_2_method_2_code 2 (some .int) ∈ kw := kw_of (ktb_5 (i := 29) rfl) rfl
theorem kwm_470 : Cond.initialized "ChalkWars$Child" ∈ kw := kw_of (ktb_1 (i := 6) rfl) rfl
theorem kwm_471 : Cond.selects "ChalkWars$Dog" ⟨"ChalkWars$Thing", "chalks", "(I)I"⟩ ⟨"ChalkWars$Thing", "chalks", "(I)I"⟩ ∈ kw := kw_of (ktb_5 (i := 37) rfl) rfl
theorem kwm_472 : Cond.selects "ChalkWars$General" ⟨"ChalkWars$Thing", "chalks", "(I)I"⟩ ⟨"ChalkWars$Thing", "chalks", "(I)I"⟩ ∈ kw := kw_of (ktb_5 (i := 38) rfl) rfl
theorem kwm_473 : Cond.instanceMethod ⟨"ChalkWars$Mother", "chalks", "(I)I"⟩ ∈ kw := kw_of (ktb_5 (i := 40) rfl) rfl
theorem kwm_474 : Cond.selects "ChalkWars$Mother" ⟨"ChalkWars$Thing", "chalks", "(I)I"⟩ ⟨"ChalkWars$Mother", "chalks", "(I)I"⟩ ∈ kw := kw_of (ktb_5 (i := 39) rfl) rfl
theorem kwm_475 : Cond.code ⟨"ChalkWars$Mother", "chalks", "(I)I"⟩ prog_6_method_2_code 2 (some .int) ∈ kw := kw_of (ktb_5 (i := 41) rfl) rfl
theorem kwm_476 : Cond.initialized "ChalkWars$Mother" ∈ kw := kw_of (ktb_1 (i := 8) rfl) rfl
theorem kwm_477 : Cond.selects "ChalkWars$Rubber" ⟨"ChalkWars$Thing", "chalks", "(I)I"⟩ ⟨"ChalkWars$Thing", "chalks", "(I)I"⟩ ∈ kw := kw_of (ktb_5 (i := 48) rfl) rfl
theorem kwm_478 : Cond.selects "ChalkWars$Child" ⟨"ChalkWars$Thing", "shouts", "(I)I"⟩ ⟨"ChalkWars$Thing", "shouts", "(I)I"⟩ ∈ kw := kw_of (ktb_5 (i := 54) rfl) rfl
theorem kwm_479 : Cond.methodLink "ChalkWars$Thing" 37 ⟨"ChalkWars$Thing", "shouts", "(I)I"⟩ ∈ kw := kw_of (ktb_5 (i := 116) rfl) rfl
theorem kwm_480 : Cond.declares ⟨"ChalkWars$Thing", "shouts", "(I)I"⟩ ∈ kn := kn_of (ktb_5 (i := 63) rfl) rfl
theorem kwm_481 : Cond.instanceMethod ⟨"ChalkWars$Dog", "shouts", "(I)I"⟩ ∈ kw := kw_of (ktb_5 (i := 56) rfl) rfl
theorem kwm_482 : Cond.selects "ChalkWars$Dog" ⟨"ChalkWars$Thing", "shouts", "(I)I"⟩ ⟨"ChalkWars$Dog", "shouts", "(I)I"⟩ ∈ kw := kw_of (ktb_5 (i := 55) rfl) rfl
theorem kwm_483 : Cond.code ⟨"ChalkWars$Dog", "shouts", "(I)I"⟩ prog_4_method_2_code 2 (some .int) ∈ kw := kw_of (ktb_5 (i := 57) rfl) rfl
theorem kwm_484 : Cond.initialized "ChalkWars$Dog" ∈ kw := kw_of (ktb_1 (i := 10) rfl) rfl
theorem kwm_485 : Cond.selects "ChalkWars$General" ⟨"ChalkWars$Thing", "shouts", "(I)I"⟩ ⟨"ChalkWars$General", "shouts", "(I)I"⟩ ∈ kw := kw_of (ktb_5 (i := 64) rfl) rfl
theorem kwm_486 : Cond.selects "ChalkWars$Mother" ⟨"ChalkWars$Thing", "shouts", "(I)I"⟩ ⟨"ChalkWars$General", "shouts", "(I)I"⟩ ∈ kw := kw_of (ktb_5 (i := 72) rfl) rfl
theorem kwm_487 : Cond.selects "ChalkWars$Rubber" ⟨"ChalkWars$Thing", "shouts", "(I)I"⟩ ⟨"ChalkWars$Thing", "shouts", "(I)I"⟩ ∈ kw := kw_of (ktb_5 (i := 73) rfl) rfl
theorem kwm_488 : Cond.selects "ChalkWars$Child" ⟨"ChalkWars$Thing", "parts", "(I)I"⟩ ⟨"ChalkWars$Thing", "parts", "(I)I"⟩ ∈ kw := kw_of (ktb_5 (i := 79) rfl) rfl
theorem kwm_489 : Cond.methodLink "ChalkWars$Thing" 40 ⟨"ChalkWars$Thing", "parts", "(I)I"⟩ ∈ kw := kw_of (ktb_5 (i := 117) rfl) rfl
theorem kwm_490 : Cond.instanceMethod ⟨"ChalkWars$Dog", "parts", "(I)I"⟩ ∈ kw := kw_of (ktb_5 (i := 81) rfl) rfl
theorem kwm_491 : Cond.selects "ChalkWars$Dog" ⟨"ChalkWars$Thing", "parts", "(I)I"⟩ ⟨"ChalkWars$Dog", "parts", "(I)I"⟩ ∈ kw := kw_of (ktb_5 (i := 80) rfl) rfl
theorem kwm_492 : Cond.code ⟨"ChalkWars$Dog", "parts", "(I)I"⟩ prog_4_method_3_code 2 (some .int) ∈ kw := kw_of (ktb_5 (i := 82) rfl) rfl
theorem kwm_493 : Cond.selects "ChalkWars$General" ⟨"ChalkWars$Thing", "parts", "(I)I"⟩ ⟨"ChalkWars$Thing", "parts", "(I)I"⟩ ∈ kw := kw_of (ktb_5 (i := 94) rfl) rfl
theorem kwm_494 : Cond.selects "ChalkWars$Mother" ⟨"ChalkWars$Thing", "parts", "(I)I"⟩ ⟨"ChalkWars$Thing", "parts", "(I)I"⟩ ∈ kw := kw_of (ktb_5 (i := 95) rfl) rfl
theorem kwm_495 : Cond.selects "ChalkWars$Rubber" ⟨"ChalkWars$Thing", "parts", "(I)I"⟩ ⟨"ChalkWars$Rubber", "parts", "(I)I"⟩ ∈ kw := kw_of (ktb_5 (i := 96) rfl) rfl
theorem kwm_496 : Cond.methodLink "ChalkWars" 1 ⟨"java/lang/Object", "<init>", "()V"⟩ ∈ kw := kw_of (ktb_1 (i := 26) rfl) rfl
theorem kwm_497 : Cond.methodLinkNest "ChalkWars" 9 ⟨"ChalkWars$City", "<init>", "()V"⟩ "ChalkWars" ∈ kn := kn_of (ktb_1 (i := 31) rfl) rfl
theorem kwm_498 : Cond.instanceMethod ⟨"ChalkWars$Plans", "<init>", "()V"⟩ ∈ kw := kw_of (ktb_1 (i := 93) rfl) rfl
theorem kwm_499 : Cond.methodLinkNest "ChalkWars" 24 ⟨"ChalkWars$Plans", "<init>", "()V"⟩ "ChalkWars" ∈ kn := kn_of (ktb_1 (i := 92) rfl) rfl
theorem kwm_500 : Cond.code ⟨"ChalkWars$Plans", "<init>", "()V"⟩ prog_7_method_1_code 2 none ∈ kw := kw_of (ktb_1 (i := 94) rfl) rfl
theorem kwm_501 : Cond.instanceMethod ⟨"ChalkWars$Reader", "<init>", "()V"⟩ ∈ kw := kw_of (ktb_1 (i := 140) rfl) rfl
theorem kwm_502 : Cond.methodLinkNest "ChalkWars" 31 ⟨"ChalkWars$Reader", "<init>", "()V"⟩ "ChalkWars" ∈ kn := kn_of (ktb_1 (i := 139) rfl) rfl
theorem kwm_503 : Cond.code ⟨"ChalkWars$Reader", "<init>", "()V"⟩ prog_8_method_1_code 1 none ∈ kw := kw_of (ktb_1 (i := 141) rfl) rfl
theorem kwm_504 : Cond.instanceMethod ⟨"ChalkWars$Child", "<init>", "()V"⟩ ∈ kw := kw_of (ktb_1 (i := 174) rfl) rfl
theorem kwm_505 : Cond.methodLinkNest "ChalkWars" 68 ⟨"ChalkWars$Child", "<init>", "()V"⟩ "ChalkWars" ∈ kn := kn_of (ktb_1 (i := 173) rfl) rfl
theorem kwm_506 : Cond.code ⟨"ChalkWars$Child", "<init>", "()V"⟩ prog_2_method_1_code 1 none ∈ kw := kw_of (ktb_1 (i := 175) rfl) rfl
theorem kwm_507 : Cond.methodLinkNest "ChalkWars" 71 ⟨"ChalkWars$General", "<init>", "()V"⟩ "ChalkWars" ∈ kn := kn_of (ktb_1 (i := 209) rfl) rfl
theorem kwm_508 : Cond.instanceMethod ⟨"ChalkWars$Mother", "<init>", "()V"⟩ ∈ kw := kw_of (ktb_1 (i := 222) rfl) rfl
theorem kwm_509 : Cond.methodLinkNest "ChalkWars" 74 ⟨"ChalkWars$Mother", "<init>", "()V"⟩ "ChalkWars" ∈ kn := kn_of (ktb_1 (i := 221) rfl) rfl
theorem kwm_510 : Cond.code ⟨"ChalkWars$Mother", "<init>", "()V"⟩ prog_6_method_1_code 1 none ∈ kw := kw_of (ktb_1 (i := 223) rfl) rfl
theorem kwm_511 : Cond.methodLinkNest "ChalkWars" 77 ⟨"ChalkWars$Rubber", "<init>", "()V"⟩ "ChalkWars" ∈ kn := kn_of (ktb_1 (i := 233) rfl) rfl
theorem kwm_512 : Cond.instanceMethod ⟨"ChalkWars$Dog", "<init>", "()V"⟩ ∈ kw := kw_of (ktb_2 (i := 6) rfl) rfl
theorem kwm_513 : Cond.methodLinkNest "ChalkWars" 80 ⟨"ChalkWars$Dog", "<init>", "()V"⟩ "ChalkWars" ∈ kn := kn_of (ktb_2 (i := 5) rfl) rfl
theorem kwm_514 : Cond.code ⟨"ChalkWars$Dog", "<init>", "()V"⟩ prog_4_method_1_code 1 none ∈ kw := kw_of (ktb_2 (i := 7) rfl) rfl
theorem kwm_515 : Cond.static ⟨"ChalkWars", "isHandKind", "(I)Z"⟩ ∈ kw := kw_of (ktb_2 (i := 69) rfl) rfl
theorem kwm_516 : Cond.methodLink "ChalkWars" 81 ⟨"ChalkWars", "isHandKind", "(I)Z"⟩ ∈ kw := kw_of (ktb_2 (i := 68) rfl) rfl
theorem kwm_517 : Cond.code ⟨"ChalkWars", "isHandKind", "(I)Z"⟩ prog_1_method_17_code 1 (some .boolean) ∈ kw := kw_of (ktb_2 (i := 70) rfl) rfl
theorem kwm_518 : Cond.initialized "ChalkWars" ∈ kw := kw_of (ktb_1 (i := 1) rfl) rfl
theorem kwm_519 : Cond.static ⟨"ChalkWars", "isCell", "(I)Z"⟩ ∈ kw := kw_of (ktb_2 (i := 72) rfl) rfl
theorem kwm_520 : Cond.methodLink "ChalkWars" 85 ⟨"ChalkWars", "isCell", "(I)Z"⟩ ∈ kw := kw_of (ktb_2 (i := 71) rfl) rfl
theorem kwm_521 : Cond.code ⟨"ChalkWars", "isCell", "(I)Z"⟩ prog_1_method_18_code 1 (some .boolean) ∈ kw := kw_of (ktb_2 (i := 73) rfl) rfl
theorem kwm_522 : Cond.static ⟨"ChalkWars", "isFacing", "(I)Z"⟩ ∈ kw := kw_of (ktb_2 (i := 75) rfl) rfl
theorem kwm_523 : Cond.methodLink "ChalkWars" 88 ⟨"ChalkWars", "isFacing", "(I)Z"⟩ ∈ kw := kw_of (ktb_2 (i := 74) rfl) rfl
theorem kwm_524 : Cond.code ⟨"ChalkWars", "isFacing", "(I)Z"⟩ prog_1_method_19_code 1 (some .boolean) ∈ kw := kw_of (ktb_2 (i := 76) rfl) rfl
theorem kwm_525 : Cond.static ⟨"ChalkWars", "isChalk", "(I)Z"⟩ ∈ kw := kw_of (ktb_2 (i := 78) rfl) rfl
theorem kwm_526 : Cond.methodLink "ChalkWars" 91 ⟨"ChalkWars", "isChalk", "(I)Z"⟩ ∈ kw := kw_of (ktb_2 (i := 77) rfl) rfl
theorem kwm_527 : Cond.code ⟨"ChalkWars", "isChalk", "(I)Z"⟩ prog_1_method_20_code 1 (some .boolean) ∈ kw := kw_of (ktb_2 (i := 79) rfl) rfl
theorem kwm_528 : Cond.instanceMethod ⟨"ChalkWars$City", "add", "(IIII)I"⟩ ∈ kw := kw_of (ktb_2 (i := 82) rfl) rfl
theorem kwm_529 : Cond.selects "ChalkWars$City" ⟨"ChalkWars$City", "add", "(IIII)I"⟩ ⟨"ChalkWars$City", "add", "(IIII)I"⟩ ∈ kw := kw_of (kpv_1 (q := (⟨"ChalkWars$City", "add", "(IIII)I"⟩, 13)) (i := 0) rfl) rfl
theorem kwm_530 : Cond.methodLinkNest "ChalkWars" 98 ⟨"ChalkWars$City", "add", "(IIII)I"⟩ "ChalkWars" ∈ kn := kn_of (ktb_2 (i := 80) rfl) rfl
theorem kwm_531 : Cond.code ⟨"ChalkWars$City", "add", "(IIII)I"⟩ prog_3_method_3_code 6 (some .int) ∈ kw := kw_of (ktb_2 (i := 83) rfl) rfl
theorem kwm_532 : Cond.instanceMethod ⟨"ChalkWars", "isHand", "(I)Z"⟩ ∈ kw := kw_of (ktb_2 (i := 94) rfl) rfl
theorem kwm_533 : Cond.selects "ChalkWars" ⟨"ChalkWars", "isHand", "(I)Z"⟩ ⟨"ChalkWars", "isHand", "(I)Z"⟩ ∈ kw := kw_of (kpv_1 (q := (⟨"ChalkWars", "isHand", "(I)Z"⟩, 16)) (i := 2) rfl) rfl
theorem kwm_534 : Cond.methodLink "ChalkWars" 102 ⟨"ChalkWars", "isHand", "(I)Z"⟩ ∈ kw := kw_of (ktb_2 (i := 92) rfl) rfl
theorem kwm_535 : Cond.code ⟨"ChalkWars", "isHand", "(I)Z"⟩ prog_1_method_15_code 2 (some .boolean) ∈ kw := kw_of (ktb_2 (i := 95) rfl) rfl
theorem kwm_536 : Cond.methodLinkNest "ChalkWars" 105 ⟨"ChalkWars$City", "get", "(II)I"⟩ "ChalkWars" ∈ kn := kn_of (ktb_2 (i := 96) rfl) rfl
theorem kwm_537 : Cond.methodLinkNest "ChalkWars" 109 ⟨"ChalkWars$City", "strokesOf", "(II)I"⟩ "ChalkWars" ∈ kn := kn_of (ktb_2 (i := 100) rfl) rfl
theorem kwm_538 : Cond.methodLinkNest "ChalkWars" 112 ⟨"ChalkWars$City", "costsOf", "(I)I"⟩ "ChalkWars" ∈ kn := kn_of (ktb_2 (i := 103) rfl) rfl
theorem kwm_539 : Cond.methodLinkNest "ChalkWars" 116 ⟨"ChalkWars$City", "turnsOf", "(I)I"⟩ "ChalkWars" ∈ kn := kn_of (ktb_2 (i := 106) rfl) rfl
theorem kwm_540 : Cond.methodLinkNest "ChalkWars" 119 ⟨"ChalkWars$City", "rubs", "(I)Z"⟩ "ChalkWars" ∈ kn := kn_of (ktb_2 (i := 109) rfl) rfl
theorem kwm_541 : Cond.methodLinkNest "ChalkWars" 122 ⟨"ChalkWars$City", "willOf", "(I)I"⟩ "ChalkWars" ∈ kn := kn_of (ktb_2 (i := 115) rfl) rfl
theorem kwm_542 : Cond.static ⟨"ChalkWars", "isPlaceInHand", "(II)Z"⟩ ∈ kw := kw_of (ktb_2 (i := 145) rfl) rfl
theorem kwm_543 : Cond.methodLink "ChalkWars" 125 ⟨"ChalkWars", "isPlaceInHand", "(II)Z"⟩ ∈ kw := kw_of (ktb_2 (i := 144) rfl) rfl
theorem kwm_544 : Cond.code ⟨"ChalkWars", "isPlaceInHand", "(II)Z"⟩ prog_1_method_22_code 2 (some .boolean) ∈ kw := kw_of (ktb_2 (i := 146) rfl) rfl
theorem kwm_545 : Cond.methodLinkNest "ChalkWars" 129 ⟨"ChalkWars$City", "put", "(III)I"⟩ "ChalkWars" ∈ kn := kn_of (ktb_2 (i := 147) rfl) rfl
theorem kwm_546 : Cond.instanceMethod ⟨"ChalkWars", "setEnd", "(I)I"⟩ ∈ kw := kw_of (ktb_2 (i := 158) rfl) rfl
theorem kwm_547 : Cond.selects "ChalkWars" ⟨"ChalkWars", "setEnd", "(I)I"⟩ ⟨"ChalkWars", "setEnd", "(I)I"⟩ ∈ kw := kw_of (kpv_1 (q := (⟨"ChalkWars", "setEnd", "(I)I"⟩, 16)) (i := 9) rfl) rfl
theorem kwm_548 : Cond.methodLink "ChalkWars" 133 ⟨"ChalkWars", "setEnd", "(I)I"⟩ ∈ kw := kw_of (ktb_2 (i := 156) rfl) rfl
theorem kwm_549 : Cond.code ⟨"ChalkWars", "setEnd", "(I)I"⟩ prog_1_method_7_code 3 (some .int) ∈ kw := kw_of (ktb_2 (i := 159) rfl) rfl
theorem kwm_550 : Cond.instanceMethod ⟨"ChalkWars", "setHome", "(I)I"⟩ ∈ kw := kw_of (ktb_2 (i := 162) rfl) rfl
theorem kwm_551 : Cond.selects "ChalkWars" ⟨"ChalkWars", "setHome", "(I)I"⟩ ⟨"ChalkWars", "setHome", "(I)I"⟩ ∈ kw := kw_of (kpv_1 (q := (⟨"ChalkWars", "setHome", "(I)I"⟩, 16)) (i := 10) rfl) rfl
theorem kwm_552 : Cond.methodLink "ChalkWars" 136 ⟨"ChalkWars", "setHome", "(I)I"⟩ ∈ kw := kw_of (ktb_2 (i := 160) rfl) rfl
theorem kwm_553 : Cond.code ⟨"ChalkWars", "setHome", "(I)I"⟩ prog_1_method_8_code 3 (some .int) ∈ kw := kw_of (ktb_2 (i := 163) rfl) rfl
theorem kwm_554 : Cond.static ⟨"ChalkWars", "isSet", "(II)Z"⟩ ∈ kw := kw_of (ktb_2 (i := 166) rfl) rfl
theorem kwm_555 : Cond.methodLink "ChalkWars" 140 ⟨"ChalkWars", "isSet", "(II)Z"⟩ ∈ kw := kw_of (ktb_2 (i := 165) rfl) rfl
theorem kwm_556 : Cond.code ⟨"ChalkWars", "isSet", "(II)Z"⟩ prog_1_method_21_code 2 (some .boolean) ∈ kw := kw_of (ktb_2 (i := 167) rfl) rfl
theorem kwm_557 : Cond.instanceMethod ⟨"ChalkWars", "setLines", "(I)I"⟩ ∈ kw := kw_of (ktb_2 (i := 170) rfl) rfl
theorem kwm_558 : Cond.selects "ChalkWars" ⟨"ChalkWars", "setLines", "(I)I"⟩ ⟨"ChalkWars", "setLines", "(I)I"⟩ ∈ kw := kw_of (kpv_1 (q := (⟨"ChalkWars", "setLines", "(I)I"⟩, 16)) (i := 11) rfl) rfl
theorem kwm_559 : Cond.methodLink "ChalkWars" 143 ⟨"ChalkWars", "setLines", "(I)I"⟩ ∈ kw := kw_of (ktb_2 (i := 168) rfl) rfl
theorem kwm_560 : Cond.code ⟨"ChalkWars", "setLines", "(I)I"⟩ prog_1_method_9_code 3 (some .int) ∈ kw := kw_of (ktb_2 (i := 171) rfl) rfl
theorem kwm_561 : Cond.instanceMethod ⟨"ChalkWars", "setDry", "(I)I"⟩ ∈ kw := kw_of (ktb_2 (i := 174) rfl) rfl
theorem kwm_562 : Cond.selects "ChalkWars" ⟨"ChalkWars", "setDry", "(I)I"⟩ ⟨"ChalkWars", "setDry", "(I)I"⟩ ∈ kw := kw_of (kpv_1 (q := (⟨"ChalkWars", "setDry", "(I)I"⟩, 16)) (i := 12) rfl) rfl
theorem kwm_563 : Cond.methodLink "ChalkWars" 146 ⟨"ChalkWars", "setDry", "(I)I"⟩ ∈ kw := kw_of (ktb_2 (i := 172) rfl) rfl
theorem kwm_564 : Cond.code ⟨"ChalkWars", "setDry", "(I)I"⟩ prog_1_method_10_code 3 (some .int) ∈ kw := kw_of (ktb_2 (i := 175) rfl) rfl
theorem kwm_565 : Cond.instanceMethod ⟨"ChalkWars", "setRain", "(I)I"⟩ ∈ kw := kw_of (ktb_2 (i := 179) rfl) rfl
theorem kwm_566 : Cond.selects "ChalkWars" ⟨"ChalkWars", "setRain", "(I)I"⟩ ⟨"ChalkWars", "setRain", "(I)I"⟩ ∈ kw := kw_of (kpv_1 (q := (⟨"ChalkWars", "setRain", "(I)I"⟩, 16)) (i := 13) rfl) rfl
theorem kwm_567 : Cond.methodLink "ChalkWars" 150 ⟨"ChalkWars", "setRain", "(I)I"⟩ ∈ kw := kw_of (ktb_2 (i := 177) rfl) rfl
theorem kwm_568 : Cond.code ⟨"ChalkWars", "setRain", "(I)I"⟩ prog_1_method_11_code 3 (some .int) ∈ kw := kw_of (ktb_2 (i := 180) rfl) rfl
theorem kwm_569 : Cond.methodLinkNest "ChalkWars" 171 ⟨"ChalkWars$City", "beside", "(II)I"⟩ "ChalkWars" ∈ kn := kn_of (ktb_2 (i := 185) rfl) rfl
theorem kwm_570 : Cond.methodLinkNest "ChalkWars" 174 ⟨"ChalkWars$City", "edgeAhead", "(II)I"⟩ "ChalkWars" ∈ kn := kn_of (ktb_2 (i := 188) rfl) rfl
theorem kwm_571 : Cond.methodLinkNest "ChalkWars" 180 ⟨"ChalkWars$City", "isOver", "()Z"⟩ "ChalkWars" ∈ kn := kn_of (ktb_2 (i := 199) rfl) rfl
theorem kwm_572 : Cond.methodLinkNest "ChalkWars" 184 ⟨"ChalkWars$City", "shutCells", "()I"⟩ "ChalkWars" ∈ kn := kn_of (ktb_2 (i := 203) rfl) rfl
theorem kwm_573 : Cond.instanceMethod ⟨"ChalkWars$Reader", "take", "(B)V"⟩ ∈ kw := kw_of (ktb_2 (i := 225) rfl) rfl
theorem kwm_574 : Cond.selects "ChalkWars$Reader" ⟨"ChalkWars$Reader", "take", "(B)V"⟩ ⟨"ChalkWars$Reader", "take", "(B)V"⟩ ∈ kw := kw_of (kpv_2 (q := (⟨"ChalkWars$Reader", "take", "(B)V"⟩, 7)) (i := 0) rfl) rfl
theorem kwm_575 : Cond.methodLinkNest "ChalkWars" 191 ⟨"ChalkWars$Reader", "take", "(B)V"⟩ "ChalkWars" ∈ kn := kn_of (ktb_2 (i := 223) rfl) rfl
theorem kwm_576 : Cond.code ⟨"ChalkWars$Reader", "take", "(B)V"⟩ prog_8_method_2_code 2 none ∈ kw := kw_of (ktb_2 (i := 226) rfl) rfl
theorem kwm_577 : Cond.instanceMethod ⟨"ChalkWars$Rules", "<init>", "(I)V"⟩ ∈ kw := kw_of (ktb_2 (i := 233) rfl) rfl
theorem kwm_578 : Cond.methodLinkNest "ChalkWars" 197 ⟨"ChalkWars$Rules", "<init>", "(I)V"⟩ "ChalkWars" ∈ kn := kn_of (ktb_2 (i := 232) rfl) rfl
theorem kwm_579 : Cond.code ⟨"ChalkWars$Rules", "<init>", "(I)V"⟩ prog_11_method_1_code 2 none ∈ kw := kw_of (ktb_2 (i := 234) rfl) rfl
theorem kwm_580 : Cond.instanceMethod ⟨"ChalkWars$Reader", "split", "()V"⟩ ∈ kw := kw_of (ktb_3 (i := 26) rfl) rfl
theorem kwm_581 : Cond.selects "ChalkWars$Reader" ⟨"ChalkWars$Reader", "split", "()V"⟩ ⟨"ChalkWars$Reader", "split", "()V"⟩ ∈ kw := kw_of (kpv_2 (q := (⟨"ChalkWars$Reader", "split", "()V"⟩, 7)) (i := 1) rfl) rfl
theorem kwm_582 : Cond.methodLinkNest "ChalkWars" 200 ⟨"ChalkWars$Reader", "split", "()V"⟩ "ChalkWars" ∈ kn := kn_of (ktb_3 (i := 24) rfl) rfl
theorem kwm_583 : Cond.code ⟨"ChalkWars$Reader", "split", "()V"⟩ prog_8_method_3_code 3 none ∈ kw := kw_of (ktb_3 (i := 27) rfl) rfl
theorem kwm_584 : Cond.instanceMethod ⟨"ChalkWars$Reader", "readsAll", "(LChalkWars$Rules;)Z"⟩ ∈ kw := kw_of (ktb_3 (i := 104) rfl) rfl
theorem kwm_585 : Cond.selects "ChalkWars$Reader" ⟨"ChalkWars$Reader", "readsAll", "(LChalkWars$Rules;)Z"⟩ ⟨"ChalkWars$Reader", "readsAll", "(LChalkWars$Rules;)Z"⟩ ∈ kw := kw_of (kpv_2 (q := (⟨"ChalkWars$Reader", "readsAll", "(LChalkWars$Rules;)Z"⟩, 7)) (i := 6) rfl) rfl
theorem kwm_586 : Cond.methodLinkNest "ChalkWars" 203 ⟨"ChalkWars$Reader", "readsAll", "(LChalkWars$Rules;)Z"⟩ "ChalkWars" ∈ kn := kn_of (ktb_3 (i := 102) rfl) rfl
theorem kwm_587 : Cond.code ⟨"ChalkWars$Reader", "readsAll", "(LChalkWars$Rules;)Z"⟩ prog_8_method_13_code 3 (some .boolean) ∈ kw := kw_of (ktb_3 (i := 105) rfl) rfl
theorem kwm_588 : Cond.instanceMethod ⟨"ChalkWars$Reader", "fault", "()I"⟩ ∈ kw := kw_of (ktb_3 (i := 151) rfl) rfl
theorem kwm_589 : Cond.selects "ChalkWars$Reader" ⟨"ChalkWars$Reader", "fault", "()I"⟩ ⟨"ChalkWars$Reader", "fault", "()I"⟩ ∈ kw := kw_of (kpv_3 (q := (⟨"ChalkWars$Reader", "fault", "()I"⟩, 7)) (i := 1) rfl) rfl
theorem kwm_590 : Cond.methodLinkNest "ChalkWars" 207 ⟨"ChalkWars$Reader", "fault", "()I"⟩ "ChalkWars" ∈ kn := kn_of (ktb_3 (i := 149) rfl) rfl
theorem kwm_591 : Cond.code ⟨"ChalkWars$Reader", "fault", "()I"⟩ prog_8_method_11_code 1 (some .int) ∈ kw := kw_of (ktb_3 (i := 152) rfl) rfl
theorem kwm_592 : Cond.methodLinkNest "ChalkWars" 215 ⟨"ChalkWars$City", "byTurns", "()I"⟩ "ChalkWars" ∈ kn := kn_of (ktb_3 (i := 157) rfl) rfl
theorem kwm_593 : Cond.methodLinkNest "ChalkWars" 218 ⟨"ChalkWars$City", "pass", "(I)I"⟩ "ChalkWars" ∈ kn := kn_of (ktb_3 (i := 161) rfl) rfl
theorem kwm_594 : Cond.methodLinkNest "ChalkWars" 221 ⟨"ChalkWars$City", "copyFrom", "(LChalkWars$City;)V"⟩ "ChalkWars" ∈ kn := kn_of (ktb_3 (i := 201) rfl) rfl
theorem kwm_595 : Cond.instanceMethod ⟨"ChalkWars$City", "passOn", "(I)I"⟩ ∈ kw := kw_of (ktb_3 (i := 210) rfl) rfl
theorem kwm_596 : Cond.selects "ChalkWars$City" ⟨"ChalkWars$City", "passOn", "(I)I"⟩ ⟨"ChalkWars$City", "passOn", "(I)I"⟩ ∈ kw := kw_of (kpv_3 (q := (⟨"ChalkWars$City", "passOn", "(I)I"⟩, 13)) (i := 8) rfl) rfl
theorem kwm_597 : Cond.methodLinkNest "ChalkWars" 225 ⟨"ChalkWars$City", "passOn", "(I)I"⟩ "ChalkWars" ∈ kn := kn_of (ktb_3 (i := 208) rfl) rfl
theorem kwm_598 : Cond.code ⟨"ChalkWars$City", "passOn", "(I)I"⟩ prog_3_method_10_code 4 (some .int) ∈ kw := kw_of (ktb_3 (i := 211) rfl) rfl
theorem kwm_599 : Cond.static ⟨"ChalkWars", "holdsAll", "(II)Z"⟩ ∈ kw := kw_of (ktb_3 (i := 220) rfl) rfl
theorem kwm_600 : Cond.methodLink "ChalkWars" 228 ⟨"ChalkWars", "holdsAll", "(II)Z"⟩ ∈ kw := kw_of (ktb_3 (i := 219) rfl) rfl
theorem kwm_601 : Cond.code ⟨"ChalkWars", "holdsAll", "(II)Z"⟩ prog_1_method_31_code 2 (some .boolean) ∈ kw := kw_of (ktb_3 (i := 221) rfl) rfl
theorem kwm_602 : Cond.instanceMethod ⟨"ChalkWars", "bestFor", "(III)I"⟩ ∈ kw := kw_of (ktb_3 (i := 228) rfl) rfl
theorem kwm_603 : Cond.selects "ChalkWars" ⟨"ChalkWars", "bestFor", "(III)I"⟩ ⟨"ChalkWars", "bestFor", "(III)I"⟩ ∈ kw := kw_of (kpv_3 (q := (⟨"ChalkWars", "bestFor", "(III)I"⟩, 16)) (i := 9) rfl) rfl
theorem kwm_604 : Cond.methodLink "ChalkWars" 231 ⟨"ChalkWars", "bestFor", "(III)I"⟩ ∈ kw := kw_of (ktb_3 (i := 226) rfl) rfl
theorem kwm_605 : Cond.code ⟨"ChalkWars", "bestFor", "(III)I"⟩ prog_1_method_30_code 8 (some .int) ∈ kw := kw_of (ktb_3 (i := 229) rfl) rfl
theorem kwm_606 : Cond.instanceMethod ⟨"ChalkWars", "leastCut", "(I)I"⟩ ∈ kw := kw_of (ktb_4 (i := 0) rfl) rfl
theorem kwm_607 : Cond.selects "ChalkWars" ⟨"ChalkWars", "leastCut", "(I)I"⟩ ⟨"ChalkWars", "leastCut", "(I)I"⟩ ∈ kw := kw_of (kpv_3 (q := (⟨"ChalkWars", "leastCut", "(I)I"⟩, 16)) (i := 10) rfl) rfl
theorem kwm_608 : Cond.methodLink "ChalkWars" 234 ⟨"ChalkWars", "leastCut", "(I)I"⟩ ∈ kw := kw_of (ktb_3 (i := 238) rfl) rfl
theorem kwm_609 : Cond.code ⟨"ChalkWars", "leastCut", "(I)I"⟩ prog_1_method_33_code 6 (some .int) ∈ kw := kw_of (ktb_4 (i := 1) rfl) rfl
theorem kwm_610 : Cond.methodLink "ChalkWars" 237 ⟨"java/lang/Integer", "bitCount", "(I)I"⟩ ∈ kw := kw_of (ktb_4 (i := 5) rfl) rfl
theorem kwm_611 : Cond.static ⟨"ChalkWars$City", "edgesLeaving", "(I)I"⟩ ∈ kw := kw_of (ktb_4 (i := 3) rfl) rfl
theorem kwm_612 : Cond.methodLinkNest "ChalkWars" 242 ⟨"ChalkWars$City", "edgesLeaving", "(I)I"⟩ "ChalkWars" ∈ kn := kn_of (ktb_4 (i := 2) rfl) rfl
theorem kwm_613 : Cond.code ⟨"ChalkWars$City", "edgesLeaving", "(I)I"⟩ prog_3_method_25_code 3 (some .int) ∈ kw := kw_of (ktb_4 (i := 4) rfl) rfl
theorem kwm_614 : Cond.methodLinkNest "ChalkWars" 245 ⟨"ChalkWars$City", "openRightward", "(I)I"⟩ "ChalkWars" ∈ kn := kn_of (ktb_4 (i := 10) rfl) rfl
theorem kwm_615 : Cond.methodLinkNest "ChalkWars" 248 ⟨"ChalkWars$City", "openDownward", "(I)I"⟩ "ChalkWars" ∈ kn := kn_of (ktb_4 (i := 11) rfl) rfl
theorem kwm_616 : Cond.methodLinkNest "ChalkWars" 251 ⟨"ChalkWars$City", "wider", "(III)I"⟩ "ChalkWars" ∈ kn := kn_of (ktb_4 (i := 12) rfl) rfl
theorem kwm_617 : Cond.methodLinkNest "ChalkWars" 254 ⟨"ChalkWars$City", "shutFrom", "(II)I"⟩ "ChalkWars" ∈ kn := kn_of (ktb_4 (i := 17) rfl) rfl
theorem kwm_618 : Cond.static ⟨"ChalkWars", "isPlanLength", "(I)Z"⟩ ∈ kw := kw_of (ktb_4 (i := 23) rfl) rfl
theorem kwm_619 : Cond.methodLink "ChalkWars" 257 ⟨"ChalkWars", "isPlanLength", "(I)Z"⟩ ∈ kw := kw_of (ktb_4 (i := 22) rfl) rfl
theorem kwm_620 : Cond.code ⟨"ChalkWars", "isPlanLength", "(I)Z"⟩ prog_1_method_41_code 1 (some .boolean) ∈ kw := kw_of (ktb_4 (i := 24) rfl) rfl
theorem kwm_621 : Cond.instanceMethod ⟨"ChalkWars$Plans", "explore", "(LChalkWars$City;II)V"⟩ ∈ kw := kw_of (ktb_4 (i := 27) rfl) rfl
theorem kwm_622 : Cond.selects "ChalkWars$Plans" ⟨"ChalkWars$Plans", "explore", "(LChalkWars$City;II)V"⟩ ⟨"ChalkWars$Plans", "explore", "(LChalkWars$City;II)V"⟩ ∈ kw := kw_of (kpv_3 (q := (⟨"ChalkWars$Plans", "explore", "(LChalkWars$City;II)V"⟩, 10)) (i := 11) rfl) rfl
theorem kwm_623 : Cond.methodLinkNest "ChalkWars" 260 ⟨"ChalkWars$Plans", "explore", "(LChalkWars$City;II)V"⟩ "ChalkWars" ∈ kn := kn_of (ktb_4 (i := 25) rfl) rfl
theorem kwm_624 : Cond.code ⟨"ChalkWars$Plans", "explore", "(LChalkWars$City;II)V"⟩ prog_7_method_3_code 4 none ∈ kw := kw_of (ktb_4 (i := 28) rfl) rfl
theorem kwm_625 : Cond.static ⟨"ChalkWars", "leastOf", "(I)I"⟩ ∈ kw := kw_of (ktb_4 (i := 68) rfl) rfl
theorem kwm_626 : Cond.methodLink "ChalkWars" 282 ⟨"ChalkWars", "leastOf", "(I)I"⟩ ∈ kw := kw_of (ktb_4 (i := 67) rfl) rfl
theorem kwm_627 : Cond.code ⟨"ChalkWars", "leastOf", "(I)I"⟩ prog_1_method_42_code 2 (some .int) ∈ kw := kw_of (ktb_4 (i := 69) rfl) rfl
theorem kwm_628 : Cond.instanceMethod ⟨"ChalkWars$Plans", "playOut", "(LChalkWars$City;I)I"⟩ ∈ kw := kw_of (ktb_4 (i := 76) rfl) rfl
theorem kwm_629 : Cond.selects "ChalkWars$Plans" ⟨"ChalkWars$Plans", "playOut", "(LChalkWars$City;I)I"⟩ ⟨"ChalkWars$Plans", "playOut", "(LChalkWars$City;I)I"⟩ ∈ kw := kw_of (kpv_3 (q := (⟨"ChalkWars$Plans", "playOut", "(LChalkWars$City;I)I"⟩, 10)) (i := 15) rfl) rfl
theorem kwm_630 : Cond.methodLinkNest "ChalkWars" 285 ⟨"ChalkWars$Plans", "playOut", "(LChalkWars$City;I)I"⟩ "ChalkWars" ∈ kn := kn_of (ktb_4 (i := 74) rfl) rfl
theorem kwm_631 : Cond.code ⟨"ChalkWars$Plans", "playOut", "(LChalkWars$City;I)I"⟩ prog_7_method_6_code 3 (some .int) ∈ kw := kw_of (ktb_4 (i := 77) rfl) rfl
theorem kwm_632 : Cond.instanceMethod ⟨"ChalkWars$City", "reportCount", "()I"⟩ ∈ kw := kw_of (ktb_4 (i := 92) rfl) rfl
theorem kwm_633 : Cond.selects "ChalkWars$City" ⟨"ChalkWars$City", "reportCount", "()I"⟩ ⟨"ChalkWars$City", "reportCount", "()I"⟩ ∈ kw := kw_of (kpv_4 (q := (⟨"ChalkWars$City", "reportCount", "()I"⟩, 13)) (i := 1) rfl) rfl
theorem kwm_634 : Cond.methodLinkNest "ChalkWars" 292 ⟨"ChalkWars$City", "reportCount", "()I"⟩ "ChalkWars" ∈ kn := kn_of (ktb_4 (i := 90) rfl) rfl
theorem kwm_635 : Cond.code ⟨"ChalkWars$City", "reportCount", "()I"⟩ prog_3_method_6_code 1 (some .int) ∈ kw := kw_of (ktb_4 (i := 93) rfl) rfl
theorem kwm_636 : Cond.instanceMethod ⟨"ChalkWars$Report", "<init>", "(IIIILChalkWars$Report;)V"⟩ ∈ kw := kw_of (ktb_4 (i := 97) rfl) rfl
theorem kwm_637 : Cond.methodLinkNest "ChalkWars" 301 ⟨"ChalkWars$Report", "<init>", "(IIIILChalkWars$Report;)V"⟩ "ChalkWars" ∈ kn := kn_of (ktb_4 (i := 96) rfl) rfl
theorem kwm_638 : Cond.code ⟨"ChalkWars$Report", "<init>", "(IIIILChalkWars$Report;)V"⟩ prog_9_method_1_code 6 none ∈ kw := kw_of (ktb_4 (i := 98) rfl) rfl
theorem kwm_639 : Cond.initialized "ChalkWars$Report" ∈ kw := kw_of (ktb_1 (i := 20) rfl) rfl
theorem kwm_640 : Cond.instanceMethod ⟨"ChalkWars", "wrongReports", "(I)I"⟩ ∈ kw := kw_of (ktb_4 (i := 132) rfl) rfl
theorem kwm_641 : Cond.selects "ChalkWars" ⟨"ChalkWars", "wrongReports", "(I)I"⟩ ⟨"ChalkWars", "wrongReports", "(I)I"⟩ ∈ kw := kw_of (kpv_4 (q := (⟨"ChalkWars", "wrongReports", "(I)I"⟩, 16)) (i := 2) rfl) rfl
theorem kwm_642 : Cond.methodLink "ChalkWars" 304 ⟨"ChalkWars", "wrongReports", "(I)I"⟩ ∈ kw := kw_of (ktb_4 (i := 130) rfl) rfl
theorem kwm_643 : Cond.code ⟨"ChalkWars", "wrongReports", "(I)I"⟩ prog_1_method_52_code 8 (some .int) ∈ kw := kw_of (ktb_4 (i := 133) rfl) rfl
theorem kwm_644 : Cond.static ⟨"ChalkWars", "strangeKind", "(I)I"⟩ ∈ kw := kw_of (ktb_4 (i := 135) rfl) rfl
theorem kwm_645 : Cond.methodLink "ChalkWars" 307 ⟨"ChalkWars", "strangeKind", "(I)I"⟩ ∈ kw := kw_of (ktb_4 (i := 134) rfl) rfl
theorem kwm_646 : Cond.code ⟨"ChalkWars", "strangeKind", "(I)I"⟩ prog_1_method_49_code 1 (some .int) ∈ kw := kw_of (ktb_4 (i := 136) rfl) rfl
theorem kwm_647 : Cond.static ⟨"ChalkWars", "strangeCell", "(I)I"⟩ ∈ kw := kw_of (ktb_4 (i := 138) rfl) rfl
theorem kwm_648 : Cond.methodLink "ChalkWars" 310 ⟨"ChalkWars", "strangeCell", "(I)I"⟩ ∈ kw := kw_of (ktb_4 (i := 137) rfl) rfl
theorem kwm_649 : Cond.code ⟨"ChalkWars", "strangeCell", "(I)I"⟩ prog_1_method_50_code 1 (some .int) ∈ kw := kw_of (ktb_4 (i := 139) rfl) rfl
theorem kwm_650 : Cond.static ⟨"ChalkWars", "strangeFacing", "(I)I"⟩ ∈ kw := kw_of (ktb_4 (i := 141) rfl) rfl
theorem kwm_651 : Cond.methodLink "ChalkWars" 313 ⟨"ChalkWars", "strangeFacing", "(I)I"⟩ ∈ kw := kw_of (ktb_4 (i := 140) rfl) rfl
theorem kwm_652 : Cond.code ⟨"ChalkWars", "strangeFacing", "(I)I"⟩ prog_1_method_51_code 1 (some .int) ∈ kw := kw_of (ktb_4 (i := 142) rfl) rfl
theorem kwm_653 : Cond.methodLinkNest "ChalkWars" 329 ⟨"ChalkWars$City", "turned", "(II)I"⟩ "ChalkWars" ∈ kn := kn_of (ktb_4 (i := 143) rfl) rfl
theorem kwm_654 : Cond.methodLinkNest "ChalkWars" 335 ⟨"ChalkWars$City", "passByLot", "()I"⟩ "ChalkWars" ∈ kn := kn_of (ktb_4 (i := 156) rfl) rfl
theorem kwm_655 : Cond.instanceMethod ⟨"ChalkWars$City", "passOnByLot", "()I"⟩ ∈ kw := kw_of (ktb_4 (i := 167) rfl) rfl
theorem kwm_656 : Cond.selects "ChalkWars$City" ⟨"ChalkWars$City", "passOnByLot", "()I"⟩ ⟨"ChalkWars$City", "passOnByLot", "()I"⟩ ∈ kw := kw_of (kpv_4 (q := (⟨"ChalkWars$City", "passOnByLot", "()I"⟩, 13)) (i := 4) rfl) rfl
theorem kwm_657 : Cond.methodLinkNest "ChalkWars" 338 ⟨"ChalkWars$City", "passOnByLot", "()I"⟩ "ChalkWars" ∈ kn := kn_of (ktb_4 (i := 165) rfl) rfl
theorem kwm_658 : Cond.code ⟨"ChalkWars$City", "passOnByLot", "()I"⟩ prog_3_method_12_code 3 (some .int) ∈ kw := kw_of (ktb_4 (i := 168) rfl) rfl
theorem kwm_659 : Cond.instanceMethod ⟨"ChalkWars", "isInRow", "(II)Z"⟩ ∈ kw := kw_of (ktb_4 (i := 180) rfl) rfl
theorem kwm_660 : Cond.selects "ChalkWars" ⟨"ChalkWars", "isInRow", "(II)Z"⟩ ⟨"ChalkWars", "isInRow", "(II)Z"⟩ ∈ kw := kw_of (kpv_4 (q := (⟨"ChalkWars", "isInRow", "(II)Z"⟩, 16)) (i := 5) rfl) rfl
theorem kwm_661 : Cond.methodLink "ChalkWars" 344 ⟨"ChalkWars", "isInRow", "(II)Z"⟩ ∈ kw := kw_of (ktb_4 (i := 178) rfl) rfl
theorem kwm_662 : Cond.code ⟨"ChalkWars", "isInRow", "(II)Z"⟩ prog_1_method_59_code 3 (some .boolean) ∈ kw := kw_of (ktb_4 (i := 181) rfl) rfl
theorem kwm_663 : Cond.instanceMethod ⟨"ChalkWars", "isRight", "(I)Z"⟩ ∈ kw := kw_of (ktb_4 (i := 192) rfl) rfl
theorem kwm_664 : Cond.selects "ChalkWars" ⟨"ChalkWars", "isRight", "(I)Z"⟩ ⟨"ChalkWars", "isRight", "(I)Z"⟩ ∈ kw := kw_of (kpv_4 (q := (⟨"ChalkWars", "isRight", "(I)Z"⟩, 16)) (i := 6) rfl) rfl
theorem kwm_665 : Cond.methodLink "ChalkWars" 347 ⟨"ChalkWars", "isRight", "(I)Z"⟩ ∈ kw := kw_of (ktb_4 (i := 190) rfl) rfl
theorem kwm_666 : Cond.code ⟨"ChalkWars", "isRight", "(I)Z"⟩ prog_1_method_61_code 4 (some .boolean) ∈ kw := kw_of (ktb_4 (i := 193) rfl) rfl
theorem kwm_667 : Cond.instanceMethod ⟨"ChalkWars", "isAct", "(I)Z"⟩ ∈ kw := kw_of (ktb_4 (i := 196) rfl) rfl
theorem kwm_668 : Cond.selects "ChalkWars" ⟨"ChalkWars", "isAct", "(I)Z"⟩ ⟨"ChalkWars", "isAct", "(I)Z"⟩ ∈ kw := kw_of (kpv_4 (q := (⟨"ChalkWars", "isAct", "(I)Z"⟩, 16)) (i := 7) rfl) rfl
theorem kwm_669 : Cond.methodLink "ChalkWars" 350 ⟨"ChalkWars", "isAct", "(I)Z"⟩ ∈ kw := kw_of (ktb_4 (i := 194) rfl) rfl
theorem kwm_670 : Cond.code ⟨"ChalkWars", "isAct", "(I)Z"⟩ prog_1_method_16_code 2 (some .boolean) ∈ kw := kw_of (ktb_4 (i := 197) rfl) rfl
theorem kwm_671 : Cond.static ⟨"ChalkWars", "isSheet", "(I)Z"⟩ ∈ kw := kw_of (ktb_4 (i := 203) rfl) rfl
theorem kwm_672 : Cond.methodLink "ChalkWars" 353 ⟨"ChalkWars", "isSheet", "(I)Z"⟩ ∈ kw := kw_of (ktb_4 (i := 202) rfl) rfl
theorem kwm_673 : Cond.code ⟨"ChalkWars", "isSheet", "(I)Z"⟩ prog_1_method_68_code 1 (some .boolean) ∈ kw := kw_of (ktb_4 (i := 204) rfl) rfl
theorem kwm_674 : Cond.instanceMethod ⟨"ChalkWars", "isItem", "(II)Z"⟩ ∈ kw := kw_of (ktb_4 (i := 211) rfl) rfl
theorem kwm_675 : Cond.selects "ChalkWars" ⟨"ChalkWars", "isItem", "(II)Z"⟩ ⟨"ChalkWars", "isItem", "(II)Z"⟩ ∈ kw := kw_of (kpv_4 (q := (⟨"ChalkWars", "isItem", "(II)Z"⟩, 16)) (i := 8) rfl) rfl
theorem kwm_676 : Cond.methodLink "ChalkWars" 356 ⟨"ChalkWars", "isItem", "(II)Z"⟩ ∈ kw := kw_of (ktb_4 (i := 209) rfl) rfl
theorem kwm_677 : Cond.code ⟨"ChalkWars", "isItem", "(II)Z"⟩ prog_1_method_69_code 3 (some .boolean) ∈ kw := kw_of (ktb_4 (i := 212) rfl) rfl
theorem kwm_678 : Cond.static ⟨"ChalkWars", "narrowed", "(II)I"⟩ ∈ kw := kw_of (ktb_4 (i := 214) rfl) rfl
theorem kwm_679 : Cond.methodLink "ChalkWars" 359 ⟨"ChalkWars", "narrowed", "(II)I"⟩ ∈ kw := kw_of (ktb_4 (i := 213) rfl) rfl
theorem kwm_680 : Cond.code ⟨"ChalkWars", "narrowed", "(II)I"⟩ prog_1_method_64_code 2 (some .int) ∈ kw := kw_of (ktb_4 (i := 215) rfl) rfl
theorem kwm_681 : Cond.instanceMethod ⟨"ChalkWars", "refusedAs", "(II)I"⟩ ∈ kw := kw_of (ktb_4 (i := 222) rfl) rfl
theorem kwm_682 : Cond.selects "ChalkWars" ⟨"ChalkWars", "refusedAs", "(II)I"⟩ ⟨"ChalkWars", "refusedAs", "(II)I"⟩ ∈ kw := kw_of (kpv_4 (q := (⟨"ChalkWars", "refusedAs", "(II)I"⟩, 16)) (i := 9) rfl) rfl
theorem kwm_683 : Cond.methodLink "ChalkWars" 362 ⟨"ChalkWars", "refusedAs", "(II)I"⟩ ∈ kw := kw_of (ktb_4 (i := 220) rfl) rfl
theorem kwm_684 : Cond.code ⟨"ChalkWars", "refusedAs", "(II)I"⟩ prog_1_method_70_code 3 (some .int) ∈ kw := kw_of (ktb_4 (i := 223) rfl) rfl
theorem kwm_685 : Cond.static ⟨"ChalkWars", "isShelf", "(I)Z"⟩ ∈ kw := kw_of (ktb_4 (i := 237) rfl) rfl
theorem kwm_686 : Cond.methodLink "ChalkWars" 365 ⟨"ChalkWars", "isShelf", "(I)Z"⟩ ∈ kw := kw_of (ktb_4 (i := 236) rfl) rfl
theorem kwm_687 : Cond.code ⟨"ChalkWars", "isShelf", "(I)Z"⟩ prog_1_method_78_code 1 (some .boolean) ∈ kw := kw_of (ktb_4 (i := 238) rfl) rfl
theorem kwm_688 : Cond.instanceMethod ⟨"ChalkWars", "lay", "(IIII)I"⟩ ∈ kw := kw_of (ktb_5 (i := 1) rfl) rfl
theorem kwm_689 : Cond.selects "ChalkWars" ⟨"ChalkWars", "lay", "(IIII)I"⟩ ⟨"ChalkWars", "lay", "(IIII)I"⟩ ∈ kw := kw_of (kpv_4 (q := (⟨"ChalkWars", "lay", "(IIII)I"⟩, 16)) (i := 10) rfl) rfl
theorem kwm_690 : Cond.methodLink "ChalkWars" 368 ⟨"ChalkWars", "lay", "(IIII)I"⟩ ∈ kw := kw_of (ktb_4 (i := 239) rfl) rfl
theorem kwm_691 : Cond.code ⟨"ChalkWars", "lay", "(IIII)I"⟩ prog_1_method_73_code 5 (some .int) ∈ kw := kw_of (ktb_5 (i := 2) rfl) rfl
theorem kwm_692 : Cond.instanceMethod ⟨"ChalkWars", "layRow", "(II)I"⟩ ∈ kw := kw_of (ktb_5 (i := 5) rfl) rfl
theorem kwm_693 : Cond.selects "ChalkWars" ⟨"ChalkWars", "layRow", "(II)I"⟩ ⟨"ChalkWars", "layRow", "(II)I"⟩ ∈ kw := kw_of (kpv_4 (q := (⟨"ChalkWars", "layRow", "(II)I"⟩, 16)) (i := 11) rfl) rfl
theorem kwm_694 : Cond.methodLink "ChalkWars" 371 ⟨"ChalkWars", "layRow", "(II)I"⟩ ∈ kw := kw_of (ktb_5 (i := 3) rfl) rfl
theorem kwm_695 : Cond.code ⟨"ChalkWars", "layRow", "(II)I"⟩ prog_1_method_72_code 3 (some .int) ∈ kw := kw_of (ktb_5 (i := 6) rfl) rfl
theorem kwm_696 : Cond.instanceMethod ⟨"ChalkWars", "handOn", "(I)I"⟩ ∈ kw := kw_of (ktb_5 (i := 13) rfl) rfl
theorem kwm_697 : Cond.selects "ChalkWars" ⟨"ChalkWars", "handOn", "(I)I"⟩ ⟨"ChalkWars", "handOn", "(I)I"⟩ ∈ kw := kw_of (kpv_4 (q := (⟨"ChalkWars", "handOn", "(I)I"⟩, 16)) (i := 12) rfl) rfl
theorem kwm_698 : Cond.methodLink "ChalkWars" 374 ⟨"ChalkWars", "handOn", "(I)I"⟩ ∈ kw := kw_of (ktb_5 (i := 11) rfl) rfl
theorem kwm_699 : Cond.code ⟨"ChalkWars", "handOn", "(I)I"⟩ prog_1_method_79_code 3 (some .int) ∈ kw := kw_of (ktb_5 (i := 14) rfl) rfl
theorem kwm_700 : Cond.methodLinkNest "ChalkWars" 377 ⟨"ChalkWars$City", "isUnder", "(II)Z"⟩ "ChalkWars" ∈ kn := kn_of (ktb_5 (i := 15) rfl) rfl
theorem kwm_701 : Cond.instanceMethod ⟨"ChalkWars$Thing", "standFor", "(II)V"⟩ ∈ kw := kw_of (ktb_5 (i := 22) rfl) rfl
theorem kwm_702 : Cond.selects "ChalkWars$Child" ⟨"ChalkWars$Thing", "standFor", "(II)V"⟩ ⟨"ChalkWars$Thing", "standFor", "(II)V"⟩ ∈ kw := kw_ex (i := 0) rfl rfl
theorem kwm_703 : Cond.methodLinkNest "ChalkWars" 384 ⟨"ChalkWars$Thing", "standFor", "(II)V"⟩ "ChalkWars" ∈ kn := kn_of (ktb_5 (i := 20) rfl) rfl
theorem kwm_704 : Cond.code ⟨"ChalkWars$Thing", "standFor", "(II)V"⟩ prog_12_method_2_code 3 none ∈ kw := kw_of (ktb_5 (i := 23) rfl) rfl
theorem kwm_705 : Cond.selects "ChalkWars$Dog" ⟨"ChalkWars$Thing", "standFor", "(II)V"⟩ ⟨"ChalkWars$Thing", "standFor", "(II)V"⟩ ∈ kw := kw_ex (i := 1) rfl rfl
theorem kwm_706 : Cond.selects "ChalkWars$General" ⟨"ChalkWars$Thing", "standFor", "(II)V"⟩ ⟨"ChalkWars$Thing", "standFor", "(II)V"⟩ ∈ kw := kw_ex (i := 2) rfl rfl
theorem kwm_707 : Cond.selects "ChalkWars$Mother" ⟨"ChalkWars$Thing", "standFor", "(II)V"⟩ ⟨"ChalkWars$Thing", "standFor", "(II)V"⟩ ∈ kw := kw_ex (i := 3) rfl rfl
theorem kwm_708 : Cond.selects "ChalkWars$Rubber" ⟨"ChalkWars$Thing", "standFor", "(II)V"⟩ ⟨"ChalkWars$Thing", "standFor", "(II)V"⟩ ∈ kw := kw_ex (i := 4) rfl rfl
theorem kwm_709 : Cond.methodLink "ChalkWars" 388 ⟨"ChalkWars$Thing", "chalks", "(I)I"⟩ ∈ kw := kw_of (ktb_5 (i := 24) rfl) rfl
theorem kwm_710 : Cond.methodLink "ChalkWars" 391 ⟨"ChalkWars$Thing", "shouts", "(I)I"⟩ ∈ kw := kw_of (ktb_5 (i := 51) rfl) rfl
theorem kwm_711 : Cond.methodLink "ChalkWars" 394 ⟨"ChalkWars$Thing", "parts", "(I)I"⟩ ∈ kw := kw_of (ktb_5 (i := 76) rfl) rfl
theorem kwm_712 : Cond.selects "ChalkWars$Child" ⟨"ChalkWars$Thing", "wins", "(I)I"⟩ ⟨"ChalkWars$Thing", "wins", "(I)I"⟩ ∈ kw := kw_of (ktb_5 (i := 101) rfl) rfl
theorem kwm_713 : Cond.methodLink "ChalkWars" 397 ⟨"ChalkWars$Thing", "wins", "(I)I"⟩ ∈ kw := kw_of (ktb_5 (i := 98) rfl) rfl
theorem kwm_714 : Cond.selects "ChalkWars$Dog" ⟨"ChalkWars$Thing", "wins", "(I)I"⟩ ⟨"ChalkWars$Thing", "wins", "(I)I"⟩ ∈ kw := kw_of (ktb_5 (i := 102) rfl) rfl
theorem kwm_715 : Cond.selects "ChalkWars$General" ⟨"ChalkWars$Thing", "wins", "(I)I"⟩ ⟨"ChalkWars$Thing", "wins", "(I)I"⟩ ∈ kw := kw_of (ktb_5 (i := 103) rfl) rfl
theorem kwm_716 : Cond.declares ⟨"ChalkWars$Thing", "wins", "(I)I"⟩ ∈ kn := kn_of (ktb_5 (i := 109) rfl) rfl
theorem kwm_717 : Cond.instanceMethod ⟨"ChalkWars$Mother", "wins", "(I)I"⟩ ∈ kw := kw_of (ktb_5 (i := 105) rfl) rfl
theorem kwm_718 : Cond.selects "ChalkWars$Mother" ⟨"ChalkWars$Thing", "wins", "(I)I"⟩ ⟨"ChalkWars$Mother", "wins", "(I)I"⟩ ∈ kw := kw_of (ktb_5 (i := 104) rfl) rfl
theorem kwm_719 : Cond.sameMethod "ChalkWars$Thing" "ChalkWars$Thing" "wins" "(I)I" ∈ kw := kw_of (ktb_5 (i := 100) rfl) rfl
theorem kwm_720 : Cond.code ⟨"ChalkWars$Mother", "wins", "(I)I"⟩ prog_6_method_3_code 2 (some .int) ∈ kw := kw_of (ktb_5 (i := 106) rfl) rfl
theorem kwm_721 : Cond.selects "ChalkWars$Rubber" ⟨"ChalkWars$Thing", "wins", "(I)I"⟩ ⟨"ChalkWars$Thing", "wins", "(I)I"⟩ ∈ kw := kw_of (ktb_5 (i := 114) rfl) rfl
theorem kwm_722 : Cond.instanceMethod ⟨"ChalkWars", "traceLength", "()I"⟩ ∈ kw := kw_of (ktb_5 (i := 124) rfl) rfl
theorem kwm_723 : Cond.selects "ChalkWars" ⟨"ChalkWars", "traceLength", "()I"⟩ ⟨"ChalkWars", "traceLength", "()I"⟩ ∈ kw := kw_of (kpv_4 (q := (⟨"ChalkWars", "traceLength", "()I"⟩, 16)) (i := 13) rfl) rfl
theorem kwm_724 : Cond.methodLink "ChalkWars" 404 ⟨"ChalkWars", "traceLength", "()I"⟩ ∈ kw := kw_of (ktb_5 (i := 122) rfl) rfl
theorem kwm_725 : Cond.code ⟨"ChalkWars", "traceLength", "()I"⟩ prog_1_method_80_code 1 (some .int) ∈ kw := kw_of (ktb_5 (i := 125) rfl) rfl
theorem kwm_726 : Cond.methodLink "ChalkWarsModel" 1 ⟨"java/lang/Object", "<init>", "()V"⟩ ∈ kw := kw_of (ktb_5 (i := 143) rfl) rfl
theorem kwm_727 : Cond.static ⟨"ChalkWarsModel", "copyAll", "([I[I)V"⟩ ∈ kw := kw_of (ktb_6 (i := 130) rfl) rfl
theorem kwm_728 : Cond.methodLink "ChalkWarsModel" 57 ⟨"ChalkWarsModel", "copyAll", "([I[I)V"⟩ ∈ kw := kw_of (ktb_6 (i := 129) rfl) rfl
theorem kwm_729 : Cond.code ⟨"ChalkWarsModel", "copyAll", "([I[I)V"⟩ prog_14_method_3_code 3 none ∈ kw := kw_of (ktb_6 (i := 131) rfl) rfl
theorem kwm_730 : Cond.initialized "ChalkWarsModel" ∈ kw := kw_of (ktb_1 (i := 11) rfl) rfl
theorem kwm_731 : Cond.static ⟨"ChalkWarsModel", "in", "(III)Z"⟩ ∈ kw := kw_of (ktb_6 (i := 5) rfl) rfl
theorem kwm_732 : Cond.methodLink "ChalkWarsModel" 61 ⟨"ChalkWarsModel", "in", "(III)Z"⟩ ∈ kw := kw_of (ktb_6 (i := 4) rfl) rfl
theorem kwm_733 : Cond.code ⟨"ChalkWarsModel", "in", "(III)Z"⟩ prog_14_method_2_code 3 (some .boolean) ∈ kw := kw_of (ktb_6 (i := 6) rfl) rfl
theorem kwm_734 : Cond.static ⟨"ChalkWarsModel", "edgeOf", "(II)I"⟩ ∈ kw := kw_of (ktb_6 (i := 88) rfl) rfl
theorem kwm_735 : Cond.methodLink "ChalkWarsModel" 65 ⟨"ChalkWarsModel", "edgeOf", "(II)I"⟩ ∈ kw := kw_of (ktb_6 (i := 87) rfl) rfl
theorem kwm_736 : Cond.code ⟨"ChalkWarsModel", "edgeOf", "(II)I"⟩ prog_14_method_14_code 4 (some .int) ∈ kw := kw_of (ktb_6 (i := 89) rfl) rfl
theorem kwm_737 : Cond.static ⟨"ChalkWarsModel", "nextTo", "(II)I"⟩ ∈ kw := kw_of (ktb_6 (i := 114) rfl) rfl
theorem kwm_738 : Cond.methodLink "ChalkWarsModel" 69 ⟨"ChalkWarsModel", "nextTo", "(II)I"⟩ ∈ kw := kw_of (ktb_6 (i := 113) rfl) rfl
theorem kwm_739 : Cond.code ⟨"ChalkWarsModel", "nextTo", "(II)I"⟩ prog_14_method_15_code 2 (some .int) ∈ kw := kw_of (ktb_6 (i := 115) rfl) rfl
theorem kwm_740 : Cond.static ⟨"ChalkWarsModel", "onward", "(II)I"⟩ ∈ kw := kw_of (ktb_6 (i := 111) rfl) rfl
theorem kwm_741 : Cond.methodLink "ChalkWarsModel" 72 ⟨"ChalkWarsModel", "onward", "(II)I"⟩ ∈ kw := kw_of (ktb_6 (i := 110) rfl) rfl
theorem kwm_742 : Cond.code ⟨"ChalkWarsModel", "onward", "(II)I"⟩ prog_14_method_16_code 5 (some .int) ∈ kw := kw_of (ktb_6 (i := 112) rfl) rfl
theorem kwm_743 : Cond.instanceMethod ⟨"ChalkWarsModel", "shutBy", "(I)I"⟩ ∈ kw := kw_of (ktb_6 (i := 108) rfl) rfl
theorem kwm_744 : Cond.selects "ChalkWarsModel" ⟨"ChalkWarsModel", "shutBy", "(I)I"⟩ ⟨"ChalkWarsModel", "shutBy", "(I)I"⟩ ∈ kw := kw_of (kpv_5 (q := (⟨"ChalkWarsModel", "shutBy", "(I)I"⟩, 31)) (i := 10) rfl) rfl
theorem kwm_745 : Cond.methodLink "ChalkWarsModel" 75 ⟨"ChalkWarsModel", "shutBy", "(I)I"⟩ ∈ kw := kw_of (ktb_6 (i := 106) rfl) rfl
theorem kwm_746 : Cond.code ⟨"ChalkWarsModel", "shutBy", "(I)I"⟩ prog_14_method_17_code 4 (some .int) ∈ kw := kw_of (ktb_6 (i := 109) rfl) rfl
theorem kwm_747 : Cond.instanceMethod ⟨"ChalkWarsModel", "of", "(II)I"⟩ ∈ kw := kw_of (ktb_6 (i := 30) rfl) rfl
theorem kwm_748 : Cond.selects "ChalkWarsModel" ⟨"ChalkWarsModel", "of", "(II)I"⟩ ⟨"ChalkWarsModel", "of", "(II)I"⟩ ∈ kw := kw_of (kpv_5 (q := (⟨"ChalkWarsModel", "of", "(II)I"⟩, 31)) (i := 0) rfl) rfl
theorem kwm_749 : Cond.methodLink "ChalkWarsModel" 79 ⟨"ChalkWarsModel", "of", "(II)I"⟩ ∈ kw := kw_of (ktb_6 (i := 28) rfl) rfl
theorem kwm_750 : Cond.code ⟨"ChalkWarsModel", "of", "(II)I"⟩ prog_14_method_10_code 3 (some .int) ∈ kw := kw_of (ktb_6 (i := 31) rfl) rfl
theorem kwm_751 : Cond.instanceMethod ⟨"ChalkWarsModel", "strokesOf", "(I)I"⟩ ∈ kw := kw_of (ktb_6 (i := 34) rfl) rfl
theorem kwm_752 : Cond.selects "ChalkWarsModel" ⟨"ChalkWarsModel", "strokesOf", "(I)I"⟩ ⟨"ChalkWarsModel", "strokesOf", "(I)I"⟩ ∈ kw := kw_of (kpv_5 (q := (⟨"ChalkWarsModel", "strokesOf", "(I)I"⟩, 31)) (i := 1) rfl) rfl
theorem kwm_753 : Cond.methodLink "ChalkWarsModel" 82 ⟨"ChalkWarsModel", "strokesOf", "(I)I"⟩ ∈ kw := kw_of (ktb_6 (i := 32) rfl) rfl
theorem kwm_754 : Cond.code ⟨"ChalkWarsModel", "strokesOf", "(I)I"⟩ prog_14_method_19_code 4 (some .int) ∈ kw := kw_of (ktb_6 (i := 35) rfl) rfl
theorem kwm_755 : Cond.static ⟨"ChalkWarsModel", "isCell", "(I)Z"⟩ ∈ kw := kw_of (ktb_6 (i := 11) rfl) rfl
theorem kwm_756 : Cond.methodLink "ChalkWarsModel" 85 ⟨"ChalkWarsModel", "isCell", "(I)Z"⟩ ∈ kw := kw_of (ktb_6 (i := 10) rfl) rfl
theorem kwm_757 : Cond.code ⟨"ChalkWarsModel", "isCell", "(I)Z"⟩ prog_14_method_8_code 1 (some .boolean) ∈ kw := kw_of (ktb_6 (i := 12) rfl) rfl
theorem kwm_758 : Cond.static ⟨"ChalkWarsModel", "isFour", "(I)Z"⟩ ∈ kw := kw_of (ktb_6 (i := 14) rfl) rfl
theorem kwm_759 : Cond.methodLink "ChalkWarsModel" 89 ⟨"ChalkWarsModel", "isFour", "(I)Z"⟩ ∈ kw := kw_of (ktb_6 (i := 13) rfl) rfl
theorem kwm_760 : Cond.code ⟨"ChalkWarsModel", "isFour", "(I)Z"⟩ prog_14_method_9_code 1 (some .boolean) ∈ kw := kw_of (ktb_6 (i := 15) rfl) rfl
theorem kwm_761 : Cond.static ⟨"ChalkWarsModel", "isOf", "(II)Z"⟩ ∈ kw := kw_of (ktb_6 (i := 8) rfl) rfl
theorem kwm_762 : Cond.methodLink "ChalkWarsModel" 92 ⟨"ChalkWarsModel", "isOf", "(II)Z"⟩ ∈ kw := kw_of (ktb_6 (i := 7) rfl) rfl
theorem kwm_763 : Cond.code ⟨"ChalkWarsModel", "isOf", "(II)Z"⟩ prog_14_method_25_code 2 (some .boolean) ∈ kw := kw_of (ktb_6 (i := 9) rfl) rfl
theorem kwm_764 : Cond.instanceMethod ⟨"ChalkWarsModel", "put", "(III)V"⟩ ∈ kw := kw_of (ktb_6 (i := 18) rfl) rfl
theorem kwm_765 : Cond.selects "ChalkWarsModel" ⟨"ChalkWarsModel", "put", "(III)V"⟩ ⟨"ChalkWarsModel", "put", "(III)V"⟩ ∈ kw := kw_of (kpv_4 (q := (⟨"ChalkWarsModel", "put", "(III)V"⟩, 31)) (i := 14) rfl) rfl
theorem kwm_766 : Cond.methodLink "ChalkWarsModel" 96 ⟨"ChalkWarsModel", "put", "(III)V"⟩ ∈ kw := kw_of (ktb_6 (i := 16) rfl) rfl
theorem kwm_767 : Cond.code ⟨"ChalkWarsModel", "put", "(III)V"⟩ prog_14_method_11_code 4 none ∈ kw := kw_of (ktb_6 (i := 19) rfl) rfl
theorem kwm_768 : Cond.instanceMethod ⟨"ChalkWarsModel", "isHand", "(I)Z"⟩ ∈ kw := kw_of (ktb_6 (i := 26) rfl) rfl
theorem kwm_769 : Cond.selects "ChalkWarsModel" ⟨"ChalkWarsModel", "isHand", "(I)Z"⟩ ⟨"ChalkWarsModel", "isHand", "(I)Z"⟩ ∈ kw := kw_of (kpv_4 (q := (⟨"ChalkWarsModel", "isHand", "(I)Z"⟩, 31)) (i := 15) rfl) rfl
theorem kwm_770 : Cond.methodLink "ChalkWarsModel" 100 ⟨"ChalkWarsModel", "isHand", "(I)Z"⟩ ∈ kw := kw_of (ktb_6 (i := 24) rfl) rfl
theorem kwm_771 : Cond.code ⟨"ChalkWarsModel", "isHand", "(I)Z"⟩ prog_14_method_7_code 2 (some .boolean) ∈ kw := kw_of (ktb_6 (i := 27) rfl) rfl
theorem kwm_772 : Cond.instanceMethod ⟨"ChalkWarsModel", "costsOf", "(I)I"⟩ ∈ kw := kw_of (ktb_6 (i := 38) rfl) rfl
theorem kwm_773 : Cond.selects "ChalkWarsModel" ⟨"ChalkWarsModel", "costsOf", "(I)I"⟩ ⟨"ChalkWarsModel", "costsOf", "(I)I"⟩ ∈ kw := kw_of (kpv_5 (q := (⟨"ChalkWarsModel", "costsOf", "(I)I"⟩, 31)) (i := 2) rfl) rfl
theorem kwm_774 : Cond.methodLink "ChalkWarsModel" 103 ⟨"ChalkWarsModel", "costsOf", "(I)I"⟩ ∈ kw := kw_of (ktb_6 (i := 36) rfl) rfl
theorem kwm_775 : Cond.code ⟨"ChalkWarsModel", "costsOf", "(I)I"⟩ prog_14_method_20_code 2 (some .int) ∈ kw := kw_of (ktb_6 (i := 39) rfl) rfl
theorem kwm_776 : Cond.static ⟨"ChalkWarsModel", "turnsBy", "(I)I"⟩ ∈ kw := kw_of (ktb_6 (i := 41) rfl) rfl
theorem kwm_777 : Cond.methodLink "ChalkWarsModel" 106 ⟨"ChalkWarsModel", "turnsBy", "(I)I"⟩ ∈ kw := kw_of (ktb_6 (i := 40) rfl) rfl
theorem kwm_778 : Cond.code ⟨"ChalkWarsModel", "turnsBy", "(I)I"⟩ prog_14_method_21_code 1 (some .int) ∈ kw := kw_of (ktb_6 (i := 42) rfl) rfl
theorem kwm_779 : Cond.instanceMethod ⟨"ChalkWarsModel", "doesRub", "(I)Z"⟩ ∈ kw := kw_of (ktb_6 (i := 45) rfl) rfl
theorem kwm_780 : Cond.selects "ChalkWarsModel" ⟨"ChalkWarsModel", "doesRub", "(I)Z"⟩ ⟨"ChalkWarsModel", "doesRub", "(I)Z"⟩ ∈ kw := kw_of (kpv_5 (q := (⟨"ChalkWarsModel", "doesRub", "(I)Z"⟩, 31)) (i := 3) rfl) rfl
theorem kwm_781 : Cond.methodLink "ChalkWarsModel" 109 ⟨"ChalkWarsModel", "doesRub", "(I)Z"⟩ ∈ kw := kw_of (ktb_6 (i := 43) rfl) rfl
theorem kwm_782 : Cond.code ⟨"ChalkWarsModel", "doesRub", "(I)Z"⟩ prog_14_method_22_code 2 (some .boolean) ∈ kw := kw_of (ktb_6 (i := 46) rfl) rfl
theorem kwm_783 : Cond.instanceMethod ⟨"ChalkWarsModel", "does", "(I)I"⟩ ∈ kw := kw_of (ktb_6 (i := 49) rfl) rfl
theorem kwm_784 : Cond.selects "ChalkWarsModel" ⟨"ChalkWarsModel", "does", "(I)I"⟩ ⟨"ChalkWarsModel", "does", "(I)I"⟩ ∈ kw := kw_of (kpv_5 (q := (⟨"ChalkWarsModel", "does", "(I)I"⟩, 31)) (i := 4) rfl) rfl
theorem kwm_785 : Cond.methodLink "ChalkWarsModel" 112 ⟨"ChalkWarsModel", "does", "(I)I"⟩ ∈ kw := kw_of (ktb_6 (i := 47) rfl) rfl
theorem kwm_786 : Cond.code ⟨"ChalkWarsModel", "does", "(I)I"⟩ prog_14_method_51_code 4 (some .int) ∈ kw := kw_of (ktb_6 (i := 50) rfl) rfl
theorem kwm_787 : Cond.instanceMethod ⟨"ChalkWarsModel", "becomes", "(II)I"⟩ ∈ kw := kw_of (ktb_6 (i := 71) rfl) rfl
theorem kwm_788 : Cond.selects "ChalkWarsModel" ⟨"ChalkWarsModel", "becomes", "(II)I"⟩ ⟨"ChalkWarsModel", "becomes", "(II)I"⟩ ∈ kw := kw_of (kpv_5 (q := (⟨"ChalkWarsModel", "becomes", "(II)I"⟩, 31)) (i := 7) rfl) rfl
theorem kwm_789 : Cond.methodLink "ChalkWarsModel" 115 ⟨"ChalkWarsModel", "becomes", "(II)I"⟩ ∈ kw := kw_of (ktb_6 (i := 69) rfl) rfl
theorem kwm_790 : Cond.code ⟨"ChalkWarsModel", "becomes", "(II)I"⟩ prog_14_method_6_code 4 (some .int) ∈ kw := kw_of (ktb_6 (i := 72) rfl) rfl
theorem kwm_791 : Cond.instanceMethod ⟨"ChalkWarsModel", "isOver", "()Z"⟩ ∈ kw := kw_of (ktb_6 (i := 100) rfl) rfl
theorem kwm_792 : Cond.selects "ChalkWarsModel" ⟨"ChalkWarsModel", "isOver", "()Z"⟩ ⟨"ChalkWarsModel", "isOver", "()Z"⟩ ∈ kw := kw_of (kpv_5 (q := (⟨"ChalkWarsModel", "isOver", "()Z"⟩, 31)) (i := 8) rfl) rfl
theorem kwm_793 : Cond.methodLink "ChalkWarsModel" 120 ⟨"ChalkWarsModel", "isOver", "()Z"⟩ ∈ kw := kw_of (ktb_6 (i := 98) rfl) rfl
theorem kwm_794 : Cond.code ⟨"ChalkWarsModel", "isOver", "()Z"⟩ prog_14_method_12_code 1 (some .boolean) ∈ kw := kw_of (ktb_6 (i := 101) rfl) rfl
theorem kwm_795 : Cond.instanceMethod ⟨"ChalkWarsModel", "shutNow", "()I"⟩ ∈ kw := kw_of (ktb_6 (i := 104) rfl) rfl
theorem kwm_796 : Cond.selects "ChalkWarsModel" ⟨"ChalkWarsModel", "shutNow", "()I"⟩ ⟨"ChalkWarsModel", "shutNow", "()I"⟩ ∈ kw := kw_of (kpv_5 (q := (⟨"ChalkWarsModel", "shutNow", "()I"⟩, 31)) (i := 9) rfl) rfl
theorem kwm_797 : Cond.methodLink "ChalkWarsModel" 124 ⟨"ChalkWarsModel", "shutNow", "()I"⟩ ∈ kw := kw_of (ktb_6 (i := 102) rfl) rfl
theorem kwm_798 : Cond.code ⟨"ChalkWarsModel", "shutNow", "()I"⟩ prog_14_method_18_code 1 (some .int) ∈ kw := kw_of (ktb_6 (i := 105) rfl) rfl
theorem kwm_799 : Cond.instanceMethod ⟨"ChalkWarsModel", "isName", "(II)Z"⟩ ∈ kw := kw_of (ktb_6 (i := 146) rfl) rfl
theorem kwm_800 : Cond.selects "ChalkWarsModel" ⟨"ChalkWarsModel", "isName", "(II)Z"⟩ ⟨"ChalkWarsModel", "isName", "(II)Z"⟩ ∈ kw := kw_of (kpv_5 (q := (⟨"ChalkWarsModel", "isName", "(II)Z"⟩, 31)) (i := 15) rfl) rfl
theorem kwm_801 : Cond.methodLink "ChalkWarsModel" 143 ⟨"ChalkWarsModel", "isName", "(II)Z"⟩ ∈ kw := kw_of (ktb_6 (i := 144) rfl) rfl
theorem kwm_802 : Cond.code ⟨"ChalkWarsModel", "isName", "(II)Z"⟩ prog_14_method_36_code 5 (some .boolean) ∈ kw := kw_of (ktb_6 (i := 147) rfl) rfl
theorem kwm_803 : Cond.instanceMethod ⟨"ChalkWarsModel", "isByte", "(III)Z"⟩ ∈ kw := kw_of (ktb_6 (i := 138) rfl) rfl
theorem kwm_804 : Cond.selects "ChalkWarsModel" ⟨"ChalkWarsModel", "isByte", "(III)Z"⟩ ⟨"ChalkWarsModel", "isByte", "(III)Z"⟩ ∈ kw := kw_of (kpv_5 (q := (⟨"ChalkWarsModel", "isByte", "(III)Z"⟩, 31)) (i := 13) rfl) rfl
theorem kwm_805 : Cond.methodLink "ChalkWarsModel" 146 ⟨"ChalkWarsModel", "isByte", "(III)Z"⟩ ∈ kw := kw_of (ktb_6 (i := 136) rfl) rfl
theorem kwm_806 : Cond.code ⟨"ChalkWarsModel", "isByte", "(III)Z"⟩ prog_14_method_35_code 4 (some .boolean) ∈ kw := kw_of (ktb_6 (i := 139) rfl) rfl
theorem kwm_807 : Cond.instanceMethod ⟨"ChalkWarsModel", "wordHere", "()I"⟩ ∈ kw := kw_of (ktb_6 (i := 142) rfl) rfl
theorem kwm_808 : Cond.selects "ChalkWarsModel" ⟨"ChalkWarsModel", "wordHere", "()I"⟩ ⟨"ChalkWarsModel", "wordHere", "()I"⟩ ∈ kw := kw_of (kpv_5 (q := (⟨"ChalkWarsModel", "wordHere", "()I"⟩, 31)) (i := 14) rfl) rfl
theorem kwm_809 : Cond.methodLink "ChalkWarsModel" 155 ⟨"ChalkWarsModel", "wordHere", "()I"⟩ ∈ kw := kw_of (ktb_6 (i := 140) rfl) rfl
theorem kwm_810 : Cond.code ⟨"ChalkWarsModel", "wordHere", "()I"⟩ prog_14_method_37_code 2 (some .int) ∈ kw := kw_of (ktb_6 (i := 143) rfl) rfl
theorem kwm_811 : Cond.static ⟨"ChalkWarsModel", "signOf", "(I)I"⟩ ∈ kw := kw_of (ktb_6 (i := 151) rfl) rfl
theorem kwm_812 : Cond.methodLink "ChalkWarsModel" 158 ⟨"ChalkWarsModel", "signOf", "(I)I"⟩ ∈ kw := kw_of (ktb_6 (i := 150) rfl) rfl
theorem kwm_813 : Cond.code ⟨"ChalkWarsModel", "signOf", "(I)I"⟩ prog_14_method_38_code 1 (some .int) ∈ kw := kw_of (ktb_6 (i := 152) rfl) rfl
theorem kwm_814 : Cond.instanceMethod ⟨"ChalkWarsModel", "reads", "()V"⟩ ∈ kw := kw_of (ktb_6 (i := 134) rfl) rfl
theorem kwm_815 : Cond.selects "ChalkWarsModel" ⟨"ChalkWarsModel", "reads", "()V"⟩ ⟨"ChalkWarsModel", "reads", "()V"⟩ ∈ kw := kw_of (kpv_5 (q := (⟨"ChalkWarsModel", "reads", "()V"⟩, 31)) (i := 12) rfl) rfl
theorem kwm_816 : Cond.methodLink "ChalkWarsModel" 165 ⟨"ChalkWarsModel", "reads", "()V"⟩ ∈ kw := kw_of (ktb_6 (i := 132) rfl) rfl
theorem kwm_817 : Cond.code ⟨"ChalkWarsModel", "reads", "()V"⟩ prog_14_method_39_code 1 none ∈ kw := kw_of (ktb_6 (i := 135) rfl) rfl
theorem kwm_818 : Cond.instanceMethod ⟨"ChalkWarsModel", "passes", "(I)Z"⟩ ∈ kw := kw_of (ktb_6 (i := 159) rfl) rfl
theorem kwm_819 : Cond.selects "ChalkWarsModel" ⟨"ChalkWarsModel", "passes", "(I)Z"⟩ ⟨"ChalkWarsModel", "passes", "(I)Z"⟩ ∈ kw := kw_of (kpv_6 (q := (⟨"ChalkWarsModel", "passes", "(I)Z"⟩, 31)) (i := 1) rfl) rfl
theorem kwm_820 : Cond.methodLink "ChalkWarsModel" 171 ⟨"ChalkWarsModel", "passes", "(I)Z"⟩ ∈ kw := kw_of (ktb_6 (i := 157) rfl) rfl
theorem kwm_821 : Cond.code ⟨"ChalkWarsModel", "passes", "(I)Z"⟩ prog_14_method_40_code 2 (some .boolean) ∈ kw := kw_of (ktb_6 (i := 160) rfl) rfl
theorem kwm_822 : Cond.instanceMethod ⟨"ChalkWarsModel", "condition", "()V"⟩ ∈ kw := kw_of (ktb_6 (i := 163) rfl) rfl
theorem kwm_823 : Cond.selects "ChalkWarsModel" ⟨"ChalkWarsModel", "condition", "()V"⟩ ⟨"ChalkWarsModel", "condition", "()V"⟩ ∈ kw := kw_of (kpv_6 (q := (⟨"ChalkWarsModel", "condition", "()V"⟩, 31)) (i := 2) rfl) rfl
theorem kwm_824 : Cond.methodLink "ChalkWarsModel" 177 ⟨"ChalkWarsModel", "condition", "()V"⟩ ∈ kw := kw_of (ktb_6 (i := 161) rfl) rfl
theorem kwm_825 : Cond.code ⟨"ChalkWarsModel", "condition", "()V"⟩ prog_14_method_45_code 1 none ∈ kw := kw_of (ktb_6 (i := 164) rfl) rfl
theorem kwm_826 : Cond.instanceMethod ⟨"ChalkWarsModel", "side", "()I"⟩ ∈ kw := kw_of (ktb_6 (i := 175) rfl) rfl
theorem kwm_827 : Cond.selects "ChalkWarsModel" ⟨"ChalkWarsModel", "side", "()I"⟩ ⟨"ChalkWarsModel", "side", "()I"⟩ ∈ kw := kw_of (kpv_6 (q := (⟨"ChalkWarsModel", "side", "()I"⟩, 31)) (i := 5) rfl) rfl
theorem kwm_828 : Cond.methodLink "ChalkWarsModel" 180 ⟨"ChalkWarsModel", "side", "()I"⟩ ∈ kw := kw_of (ktb_6 (i := 173) rfl) rfl
theorem kwm_829 : Cond.code ⟨"ChalkWarsModel", "side", "()I"⟩ prog_14_method_42_code 2 (some .int) ∈ kw := kw_of (ktb_6 (i := 176) rfl) rfl
theorem kwm_830 : Cond.instanceMethod ⟨"ChalkWarsModel", "step", "(I)V"⟩ ∈ kw := kw_of (ktb_6 (i := 179) rfl) rfl
theorem kwm_831 : Cond.selects "ChalkWarsModel" ⟨"ChalkWarsModel", "step", "(I)V"⟩ ⟨"ChalkWarsModel", "step", "(I)V"⟩ ∈ kw := kw_of (kpv_6 (q := (⟨"ChalkWarsModel", "step", "(I)V"⟩, 31)) (i := 6) rfl) rfl
theorem kwm_832 : Cond.methodLink "ChalkWarsModel" 183 ⟨"ChalkWarsModel", "step", "(I)V"⟩ ∈ kw := kw_of (ktb_6 (i := 177) rfl) rfl
theorem kwm_833 : Cond.code ⟨"ChalkWarsModel", "step", "(I)V"⟩ prog_14_method_41_code 2 none ∈ kw := kw_of (ktb_6 (i := 180) rfl) rfl
theorem kwm_834 : Cond.instanceMethod ⟨"ChalkWarsModel", "one", "()V"⟩ ∈ kw := kw_of (ktb_6 (i := 171) rfl) rfl
theorem kwm_835 : Cond.selects "ChalkWarsModel" ⟨"ChalkWarsModel", "one", "()V"⟩ ⟨"ChalkWarsModel", "one", "()V"⟩ ∈ kw := kw_of (kpv_6 (q := (⟨"ChalkWarsModel", "one", "()V"⟩, 31)) (i := 4) rfl) rfl
theorem kwm_836 : Cond.methodLink "ChalkWarsModel" 187 ⟨"ChalkWarsModel", "one", "()V"⟩ ∈ kw := kw_of (ktb_6 (i := 169) rfl) rfl
theorem kwm_837 : Cond.code ⟨"ChalkWarsModel", "one", "()V"⟩ prog_14_method_43_code 5 none ∈ kw := kw_of (ktb_6 (i := 172) rfl) rfl
theorem kwm_838 : Cond.instanceMethod ⟨"ChalkWarsModel", "all", "()V"⟩ ∈ kw := kw_of (ktb_6 (i := 167) rfl) rfl
theorem kwm_839 : Cond.selects "ChalkWarsModel" ⟨"ChalkWarsModel", "all", "()V"⟩ ⟨"ChalkWarsModel", "all", "()V"⟩ ∈ kw := kw_of (kpv_6 (q := (⟨"ChalkWarsModel", "all", "()V"⟩, 31)) (i := 3) rfl) rfl
theorem kwm_840 : Cond.methodLink "ChalkWarsModel" 190 ⟨"ChalkWarsModel", "all", "()V"⟩ ∈ kw := kw_of (ktb_6 (i := 165) rfl) rfl
theorem kwm_841 : Cond.code ⟨"ChalkWarsModel", "all", "()V"⟩ prog_14_method_44_code 1 none ∈ kw := kw_of (ktb_6 (i := 168) rfl) rfl
theorem kwm_842 : Cond.instanceMethod ⟨"ChalkWarsModel", "thinks", "()V"⟩ ∈ kw := kw_of (ktb_6 (i := 127) rfl) rfl
theorem kwm_843 : Cond.selects "ChalkWarsModel" ⟨"ChalkWarsModel", "thinks", "()V"⟩ ⟨"ChalkWarsModel", "thinks", "()V"⟩ ∈ kw := kw_of (kpv_5 (q := (⟨"ChalkWarsModel", "thinks", "()V"⟩, 31)) (i := 11) rfl) rfl
theorem kwm_844 : Cond.methodLink "ChalkWarsModel" 193 ⟨"ChalkWarsModel", "thinks", "()V"⟩ ∈ kw := kw_of (ktb_6 (i := 125) rfl) rfl
theorem kwm_845 : Cond.code ⟨"ChalkWarsModel", "thinks", "()V"⟩ prog_14_method_4_code 1 none ∈ kw := kw_of (ktb_6 (i := 128) rfl) rfl
theorem kwm_846 : Cond.instanceMethod ⟨"ChalkWarsModel", "ruleHere", "()V"⟩ ∈ kw := kw_of (ktb_6 (i := 155) rfl) rfl
theorem kwm_847 : Cond.selects "ChalkWarsModel" ⟨"ChalkWarsModel", "ruleHere", "()V"⟩ ⟨"ChalkWarsModel", "ruleHere", "()V"⟩ ∈ kw := kw_of (kpv_6 (q := (⟨"ChalkWarsModel", "ruleHere", "()V"⟩, 31)) (i := 0) rfl) rfl
theorem kwm_848 : Cond.methodLink "ChalkWarsModel" 196 ⟨"ChalkWarsModel", "ruleHere", "()V"⟩ ∈ kw := kw_of (ktb_6 (i := 153) rfl) rfl
theorem kwm_849 : Cond.code ⟨"ChalkWarsModel", "ruleHere", "()V"⟩ prog_14_method_46_code 2 none ∈ kw := kw_of (ktb_6 (i := 156) rfl) rfl
theorem kwm_850 : Cond.instanceMethod ⟨"ChalkWarsModel", "putsBack", "()V"⟩ ∈ kw := kw_of (ktb_6 (i := 183) rfl) rfl
theorem kwm_851 : Cond.selects "ChalkWarsModel" ⟨"ChalkWarsModel", "putsBack", "()V"⟩ ⟨"ChalkWarsModel", "putsBack", "()V"⟩ ∈ kw := kw_of (kpv_6 (q := (⟨"ChalkWarsModel", "putsBack", "()V"⟩, 31)) (i := 7) rfl) rfl
theorem kwm_852 : Cond.methodLink "ChalkWarsModel" 199 ⟨"ChalkWarsModel", "putsBack", "()V"⟩ ∈ kw := kw_of (ktb_6 (i := 181) rfl) rfl
theorem kwm_853 : Cond.code ⟨"ChalkWarsModel", "putsBack", "()V"⟩ prog_14_method_5_code 1 none ∈ kw := kw_of (ktb_6 (i := 184) rfl) rfl
theorem kwm_854 : Cond.instanceMethod ⟨"ChalkWarsModel", "factOf", "(II)I"⟩ ∈ kw := kw_of (ktb_6 (i := 60) rfl) rfl
theorem kwm_855 : Cond.selects "ChalkWarsModel" ⟨"ChalkWarsModel", "factOf", "(II)I"⟩ ⟨"ChalkWarsModel", "factOf", "(II)I"⟩ ∈ kw := kw_of (kpv_5 (q := (⟨"ChalkWarsModel", "factOf", "(II)I"⟩, 31)) (i := 6) rfl) rfl
theorem kwm_856 : Cond.methodLink "ChalkWarsModel" 202 ⟨"ChalkWarsModel", "factOf", "(II)I"⟩ ∈ kw := kw_of (ktb_6 (i := 58) rfl) rfl
theorem kwm_857 : Cond.code ⟨"ChalkWarsModel", "factOf", "(II)I"⟩ prog_14_method_48_code 3 (some .int) ∈ kw := kw_of (ktb_6 (i := 61) rfl) rfl
theorem kwm_858 : Cond.static ⟨"ChalkWarsModel", "isSo", "(III)Z"⟩ ∈ kw := kw_of (ktb_6 (i := 63) rfl) rfl
theorem kwm_859 : Cond.methodLink "ChalkWarsModel" 205 ⟨"ChalkWarsModel", "isSo", "(III)Z"⟩ ∈ kw := kw_of (ktb_6 (i := 62) rfl) rfl
theorem kwm_860 : Cond.code ⟨"ChalkWarsModel", "isSo", "(III)Z"⟩ prog_14_method_49_code 3 (some .boolean) ∈ kw := kw_of (ktb_6 (i := 64) rfl) rfl
theorem kwm_861 : Cond.static ⟨"ChalkWarsModel", "isUnder", "(II)Z"⟩ ∈ kw := kw_of (ktb_6 (i := 52) rfl) rfl
theorem kwm_862 : Cond.methodLink "ChalkWarsModel" 208 ⟨"ChalkWarsModel", "isUnder", "(II)Z"⟩ ∈ kw := kw_of (ktb_6 (i := 51) rfl) rfl
theorem kwm_863 : Cond.code ⟨"ChalkWarsModel", "isUnder", "(II)Z"⟩ prog_14_method_23_code 2 (some .boolean) ∈ kw := kw_of (ktb_6 (i := 53) rfl) rfl
theorem kwm_864 : Cond.instanceMethod ⟨"ChalkWarsModel", "isHolding", "(II)Z"⟩ ∈ kw := kw_of (ktb_6 (i := 56) rfl) rfl
theorem kwm_865 : Cond.selects "ChalkWarsModel" ⟨"ChalkWarsModel", "isHolding", "(II)Z"⟩ ⟨"ChalkWarsModel", "isHolding", "(II)Z"⟩ ∈ kw := kw_of (kpv_5 (q := (⟨"ChalkWarsModel", "isHolding", "(II)Z"⟩, 31)) (i := 5) rfl) rfl
theorem kwm_866 : Cond.methodLink "ChalkWarsModel" 211 ⟨"ChalkWarsModel", "isHolding", "(II)Z"⟩ ∈ kw := kw_of (ktb_6 (i := 54) rfl) rfl
theorem kwm_867 : Cond.code ⟨"ChalkWarsModel", "isHolding", "(II)Z"⟩ prog_14_method_50_code 8 (some .boolean) ∈ kw := kw_of (ktb_6 (i := 57) rfl) rfl
theorem kwm_868 : Cond.instanceMethod ⟨"ChalkWarsModel", "strokeEdges", "(I)I"⟩ ∈ kw := kw_of (ktb_6 (i := 207) rfl) rfl
theorem kwm_869 : Cond.selects "ChalkWarsModel" ⟨"ChalkWarsModel", "strokeEdges", "(I)I"⟩ ⟨"ChalkWarsModel", "strokeEdges", "(I)I"⟩ ∈ kw := kw_of (kpv_6 (q := (⟨"ChalkWarsModel", "strokeEdges", "(I)I"⟩, 31)) (i := 12) rfl) rfl
theorem kwm_870 : Cond.methodLink "ChalkWarsModel" 214 ⟨"ChalkWarsModel", "strokeEdges", "(I)I"⟩ ∈ kw := kw_of (ktb_6 (i := 205) rfl) rfl
theorem kwm_871 : Cond.code ⟨"ChalkWarsModel", "strokeEdges", "(I)I"⟩ prog_14_method_24_code 5 (some .int) ∈ kw := kw_of (ktb_6 (i := 208) rfl) rfl
theorem kwm_872 : Cond.instanceMethod ⟨"ChalkWarsModel", "walks", "(I)V"⟩ ∈ kw := kw_of (ktb_6 (i := 199) rfl) rfl
theorem kwm_873 : Cond.selects "ChalkWarsModel" ⟨"ChalkWarsModel", "walks", "(I)V"⟩ ⟨"ChalkWarsModel", "walks", "(I)V"⟩ ∈ kw := kw_of (kpv_6 (q := (⟨"ChalkWarsModel", "walks", "(I)V"⟩, 31)) (i := 10) rfl) rfl
theorem kwm_874 : Cond.methodLink "ChalkWarsModel" 217 ⟨"ChalkWarsModel", "walks", "(I)V"⟩ ∈ kw := kw_of (ktb_6 (i := 197) rfl) rfl
theorem kwm_875 : Cond.code ⟨"ChalkWarsModel", "walks", "(I)V"⟩ prog_14_method_52_code 4 none ∈ kw := kw_of (ktb_6 (i := 200) rfl) rfl
theorem kwm_876 : Cond.instanceMethod ⟨"ChalkWarsModel", "acts", "(I)V"⟩ ∈ kw := kw_of (ktb_6 (i := 203) rfl) rfl
theorem kwm_877 : Cond.selects "ChalkWarsModel" ⟨"ChalkWarsModel", "acts", "(I)V"⟩ ⟨"ChalkWarsModel", "acts", "(I)V"⟩ ∈ kw := kw_of (kpv_6 (q := (⟨"ChalkWarsModel", "acts", "(I)V"⟩, 31)) (i := 11) rfl) rfl
theorem kwm_878 : Cond.methodLink "ChalkWarsModel" 220 ⟨"ChalkWarsModel", "acts", "(I)V"⟩ ∈ kw := kw_of (ktb_6 (i := 201) rfl) rfl
theorem kwm_879 : Cond.code ⟨"ChalkWarsModel", "acts", "(I)V"⟩ prog_14_method_53_code 5 none ∈ kw := kw_of (ktb_6 (i := 204) rfl) rfl
theorem kwm_880 : Cond.static ⟨"ChalkWarsModel", "bits", "(I)I"⟩ ∈ kw := kw_of (ktb_6 (i := 210) rfl) rfl
theorem kwm_881 : Cond.methodLink "ChalkWarsModel" 223 ⟨"ChalkWarsModel", "bits", "(I)I"⟩ ∈ kw := kw_of (ktb_6 (i := 209) rfl) rfl
theorem kwm_882 : Cond.code ⟨"ChalkWarsModel", "bits", "(I)I"⟩ prog_14_method_13_code 3 (some .int) ∈ kw := kw_of (ktb_6 (i := 211) rfl) rfl
theorem kwm_883 : Cond.instanceMethod ⟨"ChalkWarsModel", "goes", "(I)I"⟩ ∈ kw := kw_of (ktb_6 (i := 195) rfl) rfl
theorem kwm_884 : Cond.selects "ChalkWarsModel" ⟨"ChalkWarsModel", "goes", "(I)I"⟩ ⟨"ChalkWarsModel", "goes", "(I)I"⟩ ∈ kw := kw_of (kpv_6 (q := (⟨"ChalkWarsModel", "goes", "(I)I"⟩, 31)) (i := 9) rfl) rfl
theorem kwm_885 : Cond.methodLink "ChalkWarsModel" 226 ⟨"ChalkWarsModel", "goes", "(I)I"⟩ ∈ kw := kw_of (ktb_6 (i := 193) rfl) rfl
theorem kwm_886 : Cond.code ⟨"ChalkWarsModel", "goes", "(I)I"⟩ prog_14_method_54_code 3 (some .int) ∈ kw := kw_of (ktb_6 (i := 196) rfl) rfl
theorem kwm_887 : Cond.instanceMethod ⟨"ChalkWarsModel", "goesByTurns", "()I"⟩ ∈ kw := kw_of (ktb_6 (i := 191) rfl) rfl
theorem kwm_888 : Cond.selects "ChalkWarsModel" ⟨"ChalkWarsModel", "goesByTurns", "()I"⟩ ⟨"ChalkWarsModel", "goesByTurns", "()I"⟩ ∈ kw := kw_of (kpv_6 (q := (⟨"ChalkWarsModel", "goesByTurns", "()I"⟩, 31)) (i := 8) rfl) rfl
theorem kwm_889 : Cond.methodLink "ChalkWarsModel" 229 ⟨"ChalkWarsModel", "goesByTurns", "()I"⟩ ∈ kw := kw_of (ktb_6 (i := 189) rfl) rfl
theorem kwm_890 : Cond.code ⟨"ChalkWarsModel", "goesByTurns", "()I"⟩ prog_14_method_55_code 1 (some .int) ∈ kw := kw_of (ktb_6 (i := 192) rfl) rfl
theorem kwm_891 : Cond.instanceMethod ⟨"ChalkWarsModel", "restOf", "(I)I"⟩ ∈ kw := kw_of (ktb_6 (i := 218) rfl) rfl
theorem kwm_892 : Cond.selects "ChalkWarsModel" ⟨"ChalkWarsModel", "restOf", "(I)I"⟩ ⟨"ChalkWarsModel", "restOf", "(I)I"⟩ ∈ kw := kw_of (kpv_6 (q := (⟨"ChalkWarsModel", "restOf", "(I)I"⟩, 31)) (i := 13) rfl) rfl
theorem kwm_893 : Cond.methodLink "ChalkWarsModel" 232 ⟨"ChalkWarsModel", "restOf", "(I)I"⟩ ∈ kw := kw_of (ktb_6 (i := 216) rfl) rfl
theorem kwm_894 : Cond.code ⟨"ChalkWarsModel", "restOf", "(I)I"⟩ prog_14_method_57_code 4 (some .int) ∈ kw := kw_of (ktb_6 (i := 219) rfl) rfl
theorem kwm_895 : Cond.instanceMethod ⟨"ChalkWarsModel", "bestFor", "(III)I"⟩ ∈ kw := kw_of (ktb_6 (i := 230) rfl) rfl
theorem kwm_896 : Cond.selects "ChalkWarsModel" ⟨"ChalkWarsModel", "bestFor", "(III)I"⟩ ⟨"ChalkWarsModel", "bestFor", "(III)I"⟩ ∈ kw := kw_of (kpv_6 (q := (⟨"ChalkWarsModel", "bestFor", "(III)I"⟩, 31)) (i := 14) rfl) rfl
theorem kwm_897 : Cond.methodLink "ChalkWarsModel" 235 ⟨"ChalkWarsModel", "bestFor", "(III)I"⟩ ∈ kw := kw_of (ktb_6 (i := 228) rfl) rfl
theorem kwm_898 : Cond.code ⟨"ChalkWarsModel", "bestFor", "(III)I"⟩ prog_14_method_60_code 8 (some .int) ∈ kw := kw_of (ktb_6 (i := 231) rfl) rfl
theorem kwm_899 : Cond.instanceMethod ⟨"ChalkWarsModel", "leastCut", "(II)I"⟩ ∈ kw := kw_of (ktb_7 (i := 2) rfl) rfl
theorem kwm_900 : Cond.selects "ChalkWarsModel" ⟨"ChalkWarsModel", "leastCut", "(II)I"⟩ ⟨"ChalkWarsModel", "leastCut", "(II)I"⟩ ∈ kw := kw_of (kpv_6 (q := (⟨"ChalkWarsModel", "leastCut", "(II)I"⟩, 31)) (i := 15) rfl) rfl
theorem kwm_901 : Cond.methodLink "ChalkWarsModel" 240 ⟨"ChalkWarsModel", "leastCut", "(II)I"⟩ ∈ kw := kw_of (ktb_7 (i := 0) rfl) rfl
theorem kwm_902 : Cond.code ⟨"ChalkWarsModel", "leastCut", "(II)I"⟩ prog_14_method_63_code 6 (some .int) ∈ kw := kw_of (ktb_7 (i := 3) rfl) rfl
theorem kwm_903 : Cond.instanceMethod ⟨"ChalkWarsModel", "monthsOf", "(I)I"⟩ ∈ kw := kw_of (ktb_7 (i := 23) rfl) rfl
theorem kwm_904 : Cond.selects "ChalkWarsModel" ⟨"ChalkWarsModel", "monthsOf", "(I)I"⟩ ⟨"ChalkWarsModel", "monthsOf", "(I)I"⟩ ∈ kw := kw_of (kpv_7 (q := (⟨"ChalkWarsModel", "monthsOf", "(I)I"⟩, 31)) (i := 1) rfl) rfl
theorem kwm_905 : Cond.methodLink "ChalkWarsModel" 243 ⟨"ChalkWarsModel", "monthsOf", "(I)I"⟩ ∈ kw := kw_of (ktb_7 (i := 21) rfl) rfl
theorem kwm_906 : Cond.code ⟨"ChalkWarsModel", "monthsOf", "(I)I"⟩ prog_14_method_67_code 3 (some .int) ∈ kw := kw_of (ktb_7 (i := 24) rfl) rfl
theorem kwm_907 : Cond.static ⟨"ChalkWarsModel", "digit", "(IIII)I"⟩ ∈ kw := kw_of (ktb_7 (i := 34) rfl) rfl
theorem kwm_908 : Cond.methodLink "ChalkWarsModel" 246 ⟨"ChalkWarsModel", "digit", "(IIII)I"⟩ ∈ kw := kw_of (ktb_7 (i := 33) rfl) rfl
theorem kwm_909 : Cond.code ⟨"ChalkWarsModel", "digit", "(IIII)I"⟩ prog_14_method_69_code 6 (some .int) ∈ kw := kw_of (ktb_7 (i := 35) rfl) rfl
theorem kwm_910 : Cond.instanceMethod ⟨"ChalkWarsModel", "plansOf", "(I)I"⟩ ∈ kw := kw_of (ktb_7 (i := 27) rfl) rfl
theorem kwm_911 : Cond.selects "ChalkWarsModel" ⟨"ChalkWarsModel", "plansOf", "(I)I"⟩ ⟨"ChalkWarsModel", "plansOf", "(I)I"⟩ ∈ kw := kw_of (kpv_7 (q := (⟨"ChalkWarsModel", "plansOf", "(I)I"⟩, 31)) (i := 2) rfl) rfl
theorem kwm_912 : Cond.methodLink "ChalkWarsModel" 253 ⟨"ChalkWarsModel", "plansOf", "(I)I"⟩ ∈ kw := kw_of (ktb_7 (i := 25) rfl) rfl
theorem kwm_913 : Cond.code ⟨"ChalkWarsModel", "plansOf", "(I)I"⟩ prog_14_method_68_code 4 (some .int) ∈ kw := kw_of (ktb_7 (i := 28) rfl) rfl
theorem kwm_914 : Cond.instanceMethod ⟨"ChalkWarsModel", "worthOf", "(II)I"⟩ ∈ kw := kw_of (ktb_7 (i := 31) rfl) rfl
theorem kwm_915 : Cond.selects "ChalkWarsModel" ⟨"ChalkWarsModel", "worthOf", "(II)I"⟩ ⟨"ChalkWarsModel", "worthOf", "(II)I"⟩ ∈ kw := kw_of (kpv_7 (q := (⟨"ChalkWarsModel", "worthOf", "(II)I"⟩, 31)) (i := 3) rfl) rfl
theorem kwm_916 : Cond.methodLink "ChalkWarsModel" 259 ⟨"ChalkWarsModel", "worthOf", "(II)I"⟩ ∈ kw := kw_of (ktb_7 (i := 29) rfl) rfl
theorem kwm_917 : Cond.code ⟨"ChalkWarsModel", "worthOf", "(II)I"⟩ prog_14_method_70_code 6 (some .int) ∈ kw := kw_of (ktb_7 (i := 32) rfl) rfl
theorem kwm_918 : Cond.instanceMethod ⟨"ChalkWarsModel", "findBest", "(I)V"⟩ ∈ kw := kw_of (ktb_7 (i := 19) rfl) rfl
theorem kwm_919 : Cond.selects "ChalkWarsModel" ⟨"ChalkWarsModel", "findBest", "(I)V"⟩ ⟨"ChalkWarsModel", "findBest", "(I)V"⟩ ∈ kw := kw_of (kpv_7 (q := (⟨"ChalkWarsModel", "findBest", "(I)V"⟩, 31)) (i := 0) rfl) rfl
theorem kwm_920 : Cond.methodLink "ChalkWarsModel" 268 ⟨"ChalkWarsModel", "findBest", "(I)V"⟩ ∈ kw := kw_of (ktb_7 (i := 17) rfl) rfl
theorem kwm_921 : Cond.code ⟨"ChalkWarsModel", "findBest", "(I)V"⟩ prog_14_method_71_code 6 none ∈ kw := kw_of (ktb_7 (i := 20) rfl) rfl
theorem kwm_922 : Cond.instanceMethod ⟨"ChalkWarsModel", "actsIn", "(II)I"⟩ ∈ kw := kw_of (ktb_7 (i := 50) rfl) rfl
theorem kwm_923 : Cond.selects "ChalkWarsModel" ⟨"ChalkWarsModel", "actsIn", "(II)I"⟩ ⟨"ChalkWarsModel", "actsIn", "(II)I"⟩ ∈ kw := kw_of (kpv_7 (q := (⟨"ChalkWarsModel", "actsIn", "(II)I"⟩, 31)) (i := 4) rfl) rfl
theorem kwm_924 : Cond.methodLink "ChalkWarsModel" 271 ⟨"ChalkWarsModel", "actsIn", "(II)I"⟩ ∈ kw := kw_of (ktb_7 (i := 48) rfl) rfl
theorem kwm_925 : Cond.code ⟨"ChalkWarsModel", "actsIn", "(II)I"⟩ prog_14_method_75_code 5 (some .int) ∈ kw := kw_of (ktb_7 (i := 51) rfl) rfl
theorem kwm_926 : Cond.instanceMethod ⟨"ChalkWarsModel", "gameOn", "(IZ)I"⟩ ∈ kw := kw_of (ktb_7 (i := 62) rfl) rfl
theorem kwm_927 : Cond.selects "ChalkWarsModel" ⟨"ChalkWarsModel", "gameOn", "(IZ)I"⟩ ⟨"ChalkWarsModel", "gameOn", "(IZ)I"⟩ ∈ kw := kw_of (kpv_7 (q := (⟨"ChalkWarsModel", "gameOn", "(IZ)I"⟩, 31)) (i := 5) rfl) rfl
theorem kwm_928 : Cond.methodLink "ChalkWarsModel" 274 ⟨"ChalkWarsModel", "gameOn", "(IZ)I"⟩ ∈ kw := kw_of (ktb_7 (i := 60) rfl) rfl
theorem kwm_929 : Cond.code ⟨"ChalkWarsModel", "gameOn", "(IZ)I"⟩ prog_14_method_78_code 8 (some .int) ∈ kw := kw_of (ktb_7 (i := 63) rfl) rfl
theorem kwm_930 : Cond.instanceMethod ⟨"ChalkWarsModel", "fits", "(II)Z"⟩ ∈ kw := kw_of (ktb_7 (i := 86) rfl) rfl
theorem kwm_931 : Cond.selects "ChalkWarsModel" ⟨"ChalkWarsModel", "fits", "(II)Z"⟩ ⟨"ChalkWarsModel", "fits", "(II)Z"⟩ ∈ kw := kw_of (kpv_7 (q := (⟨"ChalkWarsModel", "fits", "(II)Z"⟩, 31)) (i := 7) rfl) rfl
theorem kwm_932 : Cond.methodLink "ChalkWarsModel" 278 ⟨"ChalkWarsModel", "fits", "(II)Z"⟩ ∈ kw := kw_of (ktb_7 (i := 84) rfl) rfl
theorem kwm_933 : Cond.code ⟨"ChalkWarsModel", "fits", "(II)Z"⟩ prog_14_method_83_code 10 (some .boolean) ∈ kw := kw_of (ktb_7 (i := 87) rfl) rfl
theorem kwm_934 : Cond.instanceMethod ⟨"ChalkWarsModel", "strange", "(I)I"⟩ ∈ kw := kw_of (ktb_7 (i := 82) rfl) rfl
theorem kwm_935 : Cond.selects "ChalkWarsModel" ⟨"ChalkWarsModel", "strange", "(I)I"⟩ ⟨"ChalkWarsModel", "strange", "(I)I"⟩ ∈ kw := kw_of (kpv_7 (q := (⟨"ChalkWarsModel", "strange", "(I)I"⟩, 31)) (i := 6) rfl) rfl
theorem kwm_936 : Cond.methodLink "ChalkWarsModel" 281 ⟨"ChalkWarsModel", "strange", "(I)I"⟩ ∈ kw := kw_of (ktb_7 (i := 80) rfl) rfl
theorem kwm_937 : Cond.code ⟨"ChalkWarsModel", "strange", "(I)I"⟩ prog_14_method_84_code 3 (some .int) ∈ kw := kw_of (ktb_7 (i := 83) rfl) rfl
theorem kwm_938 : Cond.instanceMethod ⟨"ChalkWarsModel", "byLot", "()I"⟩ ∈ kw := kw_of (ktb_7 (i := 102) rfl) rfl
theorem kwm_939 : Cond.selects "ChalkWarsModel" ⟨"ChalkWarsModel", "byLot", "()I"⟩ ⟨"ChalkWarsModel", "byLot", "()I"⟩ ∈ kw := kw_of (kpv_7 (q := (⟨"ChalkWarsModel", "byLot", "()I"⟩, 31)) (i := 8) rfl) rfl
theorem kwm_940 : Cond.methodLink "ChalkWarsModel" 285 ⟨"ChalkWarsModel", "byLot", "()I"⟩ ∈ kw := kw_of (ktb_7 (i := 100) rfl) rfl
theorem kwm_941 : Cond.code ⟨"ChalkWarsModel", "byLot", "()I"⟩ prog_14_method_88_code 1 (some .int) ∈ kw := kw_of (ktb_7 (i := 103) rfl) rfl
theorem kwm_942 : Cond.instanceMethod ⟨"ChalkWarsModel", "isRow", "(II)Z"⟩ ∈ kw := kw_of (ktb_7 (i := 119) rfl) rfl
theorem kwm_943 : Cond.selects "ChalkWarsModel" ⟨"ChalkWarsModel", "isRow", "(II)Z"⟩ ⟨"ChalkWarsModel", "isRow", "(II)Z"⟩ ∈ kw := kw_of (kpv_7 (q := (⟨"ChalkWarsModel", "isRow", "(II)Z"⟩, 31)) (i := 9) rfl) rfl
theorem kwm_944 : Cond.methodLink "ChalkWarsModel" 291 ⟨"ChalkWarsModel", "isRow", "(II)Z"⟩ ∈ kw := kw_of (ktb_7 (i := 117) rfl) rfl
theorem kwm_945 : Cond.code ⟨"ChalkWarsModel", "isRow", "(II)Z"⟩ prog_14_method_92_code 3 (some .boolean) ∈ kw := kw_of (ktb_7 (i := 120) rfl) rfl
theorem kwm_946 : Cond.instanceMethod ⟨"ChalkWarsModel", "notActs", "(II)I"⟩ ∈ kw := kw_of (ktb_7 (i := 147) rfl) rfl
theorem kwm_947 : Cond.selects "ChalkWarsModel" ⟨"ChalkWarsModel", "notActs", "(II)I"⟩ ⟨"ChalkWarsModel", "notActs", "(II)I"⟩ ∈ kw := kw_of (kpv_7 (q := (⟨"ChalkWarsModel", "notActs", "(II)I"⟩, 31)) (i := 10) rfl) rfl
theorem kwm_948 : Cond.methodLink "ChalkWarsModel" 294 ⟨"ChalkWarsModel", "notActs", "(II)I"⟩ ∈ kw := kw_of (ktb_7 (i := 145) rfl) rfl
theorem kwm_949 : Cond.code ⟨"ChalkWarsModel", "notActs", "(II)I"⟩ prog_14_method_99_code 3 (some .int) ∈ kw := kw_of (ktb_7 (i := 148) rfl) rfl
theorem kwm_950 : Cond.instanceMethod ⟨"ChalkWarsModel", "isPlace", "(IJ)Z"⟩ ∈ kw := kw_of (ktb_7 (i := 151) rfl) rfl
theorem kwm_951 : Cond.selects "ChalkWarsModel" ⟨"ChalkWarsModel", "isPlace", "(IJ)Z"⟩ ⟨"ChalkWarsModel", "isPlace", "(IJ)Z"⟩ ∈ kw := kw_of (kpv_7 (q := (⟨"ChalkWarsModel", "isPlace", "(IJ)Z"⟩, 31)) (i := 11) rfl) rfl
theorem kwm_952 : Cond.methodLink "ChalkWarsModel" 297 ⟨"ChalkWarsModel", "isPlace", "(IJ)Z"⟩ ∈ kw := kw_of (ktb_7 (i := 149) rfl) rfl
theorem kwm_953 : Cond.code ⟨"ChalkWarsModel", "isPlace", "(IJ)Z"⟩ prog_14_method_100_code 4 (some .boolean) ∈ kw := kw_of (ktb_7 (i := 152) rfl) rfl
theorem kwm_954 : Cond.instanceMethod ⟨"ChalkWarsModel", "hasHand", "(I)Z"⟩ ∈ kw := kw_of (ktb_7 (i := 167) rfl) rfl
theorem kwm_955 : Cond.selects "ChalkWarsModel" ⟨"ChalkWarsModel", "hasHand", "(I)Z"⟩ ⟨"ChalkWarsModel", "hasHand", "(I)Z"⟩ ∈ kw := kw_of (kpv_7 (q := (⟨"ChalkWarsModel", "hasHand", "(I)Z"⟩, 31)) (i := 12) rfl) rfl
theorem kwm_956 : Cond.methodLink "ChalkWarsModel" 301 ⟨"ChalkWarsModel", "hasHand", "(I)Z"⟩ ∈ kw := kw_of (ktb_7 (i := 165) rfl) rfl
theorem kwm_957 : Cond.code ⟨"ChalkWarsModel", "hasHand", "(I)Z"⟩ prog_14_method_104_code 2 (some .boolean) ∈ kw := kw_of (ktb_7 (i := 168) rfl) rfl
theorem kwm_958 : Cond.instanceMethod ⟨"ChalkWarsModel", "begins", "(I)V"⟩ ∈ kw := kw_of (ktb_7 (i := 179) rfl) rfl
theorem kwm_959 : Cond.selects "ChalkWarsModel" ⟨"ChalkWarsModel", "begins", "(I)V"⟩ ⟨"ChalkWarsModel", "begins", "(I)V"⟩ ∈ kw := kw_of (kpv_7 (q := (⟨"ChalkWarsModel", "begins", "(I)V"⟩, 31)) (i := 14) rfl) rfl
theorem kwm_960 : Cond.methodLink "ChalkWarsModel" 307 ⟨"ChalkWarsModel", "begins", "(I)V"⟩ ∈ kw := kw_of (ktb_7 (i := 177) rfl) rfl
theorem kwm_961 : Cond.code ⟨"ChalkWarsModel", "begins", "(I)V"⟩ prog_14_method_106_code 2 none ∈ kw := kw_of (ktb_7 (i := 180) rfl) rfl
theorem kwm_962 : Cond.instanceMethod ⟨"ChalkWarsModel", "plainChalks", "(II)I"⟩ ∈ kw := kw_of (ktb_7 (i := 183) rfl) rfl
theorem kwm_963 : Cond.selects "ChalkWarsModel" ⟨"ChalkWarsModel", "plainChalks", "(II)I"⟩ ⟨"ChalkWarsModel", "plainChalks", "(II)I"⟩ ∈ kw := kw_of (kpv_7 (q := (⟨"ChalkWarsModel", "plainChalks", "(II)I"⟩, 31)) (i := 15) rfl) rfl
theorem kwm_964 : Cond.methodLink "ChalkWarsModel" 310 ⟨"ChalkWarsModel", "plainChalks", "(II)I"⟩ ∈ kw := kw_of (ktb_7 (i := 181) rfl) rfl
theorem kwm_965 : Cond.code ⟨"ChalkWarsModel", "plainChalks", "(II)I"⟩ prog_14_method_107_code 3 (some .int) ∈ kw := kw_of (ktb_7 (i := 184) rfl) rfl
theorem kwm_966 : Cond.instanceMethod ⟨"ChalkWarsModel", "chalks", "(II)I"⟩ ∈ kw := kw_of (ktb_7 (i := 175) rfl) rfl
theorem kwm_967 : Cond.selects "ChalkWarsModel" ⟨"ChalkWarsModel", "chalks", "(II)I"⟩ ⟨"ChalkWarsModel", "chalks", "(II)I"⟩ ∈ kw := kw_of (kpv_7 (q := (⟨"ChalkWarsModel", "chalks", "(II)I"⟩, 31)) (i := 13) rfl) rfl
theorem kwm_968 : Cond.methodLink "ChalkWarsModel" 313 ⟨"ChalkWarsModel", "chalks", "(II)I"⟩ ∈ kw := kw_of (ktb_7 (i := 173) rfl) rfl
theorem kwm_969 : Cond.code ⟨"ChalkWarsModel", "chalks", "(II)I"⟩ prog_14_method_108_code 3 (some .int) ∈ kw := kw_of (ktb_7 (i := 176) rfl) rfl
theorem kwm_970 : Cond.instanceMethod ⟨"ChalkWarsModel", "plainShouts", "(II)I"⟩ ∈ kw := kw_of (ktb_7 (i := 191) rfl) rfl
theorem kwm_971 : Cond.selects "ChalkWarsModel" ⟨"ChalkWarsModel", "plainShouts", "(II)I"⟩ ⟨"ChalkWarsModel", "plainShouts", "(II)I"⟩ ∈ kw := kw_of (kpv_8 (q := (⟨"ChalkWarsModel", "plainShouts", "(II)I"⟩, 31)) (i := 1) rfl) rfl
theorem kwm_972 : Cond.methodLink "ChalkWarsModel" 316 ⟨"ChalkWarsModel", "plainShouts", "(II)I"⟩ ∈ kw := kw_of (ktb_7 (i := 189) rfl) rfl
theorem kwm_973 : Cond.code ⟨"ChalkWarsModel", "plainShouts", "(II)I"⟩ prog_14_method_109_code 3 (some .int) ∈ kw := kw_of (ktb_7 (i := 192) rfl) rfl
theorem kwm_974 : Cond.instanceMethod ⟨"ChalkWarsModel", "plainParts", "(II)I"⟩ ∈ kw := kw_of (ktb_7 (i := 203) rfl) rfl
theorem kwm_975 : Cond.selects "ChalkWarsModel" ⟨"ChalkWarsModel", "plainParts", "(II)I"⟩ ⟨"ChalkWarsModel", "plainParts", "(II)I"⟩ ∈ kw := kw_of (kpv_8 (q := (⟨"ChalkWarsModel", "plainParts", "(II)I"⟩, 31)) (i := 4) rfl) rfl
theorem kwm_976 : Cond.methodLink "ChalkWarsModel" 322 ⟨"ChalkWarsModel", "plainParts", "(II)I"⟩ ∈ kw := kw_of (ktb_7 (i := 201) rfl) rfl
theorem kwm_977 : Cond.code ⟨"ChalkWarsModel", "plainParts", "(II)I"⟩ prog_14_method_111_code 4 (some .int) ∈ kw := kw_of (ktb_7 (i := 204) rfl) rfl
theorem kwm_978 : Cond.instanceMethod ⟨"ChalkWarsModel", "rubberParts", "(II)I"⟩ ∈ kw := kw_of (ktb_7 (i := 199) rfl) rfl
theorem kwm_979 : Cond.selects "ChalkWarsModel" ⟨"ChalkWarsModel", "rubberParts", "(II)I"⟩ ⟨"ChalkWarsModel", "rubberParts", "(II)I"⟩ ∈ kw := kw_of (kpv_8 (q := (⟨"ChalkWarsModel", "rubberParts", "(II)I"⟩, 31)) (i := 3) rfl) rfl
theorem kwm_980 : Cond.methodLink "ChalkWarsModel" 325 ⟨"ChalkWarsModel", "rubberParts", "(II)I"⟩ ∈ kw := kw_of (ktb_7 (i := 197) rfl) rfl
theorem kwm_981 : Cond.code ⟨"ChalkWarsModel", "rubberParts", "(II)I"⟩ prog_14_method_112_code 3 (some .int) ∈ kw := kw_of (ktb_7 (i := 200) rfl) rfl
theorem kwm_982 : Cond.instanceMethod ⟨"ChalkWarsModel", "shouts", "(II)I"⟩ ∈ kw := kw_of (ktb_7 (i := 187) rfl) rfl
theorem kwm_983 : Cond.selects "ChalkWarsModel" ⟨"ChalkWarsModel", "shouts", "(II)I"⟩ ⟨"ChalkWarsModel", "shouts", "(II)I"⟩ ∈ kw := kw_of (kpv_8 (q := (⟨"ChalkWarsModel", "shouts", "(II)I"⟩, 31)) (i := 0) rfl) rfl
theorem kwm_984 : Cond.methodLink "ChalkWarsModel" 328 ⟨"ChalkWarsModel", "shouts", "(II)I"⟩ ∈ kw := kw_of (ktb_7 (i := 185) rfl) rfl
theorem kwm_985 : Cond.code ⟨"ChalkWarsModel", "shouts", "(II)I"⟩ prog_14_method_110_code 3 (some .int) ∈ kw := kw_of (ktb_7 (i := 188) rfl) rfl
theorem kwm_986 : Cond.instanceMethod ⟨"ChalkWarsModel", "parts", "(II)I"⟩ ∈ kw := kw_of (ktb_7 (i := 195) rfl) rfl
theorem kwm_987 : Cond.selects "ChalkWarsModel" ⟨"ChalkWarsModel", "parts", "(II)I"⟩ ⟨"ChalkWarsModel", "parts", "(II)I"⟩ ∈ kw := kw_of (kpv_8 (q := (⟨"ChalkWarsModel", "parts", "(II)I"⟩, 31)) (i := 2) rfl) rfl
theorem kwm_988 : Cond.methodLink "ChalkWarsModel" 331 ⟨"ChalkWarsModel", "parts", "(II)I"⟩ ∈ kw := kw_of (ktb_7 (i := 193) rfl) rfl
theorem kwm_989 : Cond.code ⟨"ChalkWarsModel", "parts", "(II)I"⟩ prog_14_method_113_code 4 (some .int) ∈ kw := kw_of (ktb_7 (i := 196) rfl) rfl
theorem kwm_990 : Cond.instanceMethod ⟨"ChalkWarsModel", "plainWins", "(II)I"⟩ ∈ kw := kw_of (ktb_7 (i := 211) rfl) rfl
theorem kwm_991 : Cond.selects "ChalkWarsModel" ⟨"ChalkWarsModel", "plainWins", "(II)I"⟩ ⟨"ChalkWarsModel", "plainWins", "(II)I"⟩ ∈ kw := kw_of (kpv_8 (q := (⟨"ChalkWarsModel", "plainWins", "(II)I"⟩, 31)) (i := 6) rfl) rfl
theorem kwm_992 : Cond.methodLink "ChalkWarsModel" 334 ⟨"ChalkWarsModel", "plainWins", "(II)I"⟩ ∈ kw := kw_of (ktb_7 (i := 209) rfl) rfl
theorem kwm_993 : Cond.code ⟨"ChalkWarsModel", "plainWins", "(II)I"⟩ prog_14_method_114_code 4 (some .int) ∈ kw := kw_of (ktb_7 (i := 212) rfl) rfl
theorem kwm_994 : Cond.instanceMethod ⟨"ChalkWarsModel", "wins", "(II)I"⟩ ∈ kw := kw_of (ktb_7 (i := 207) rfl) rfl
theorem kwm_995 : Cond.selects "ChalkWarsModel" ⟨"ChalkWarsModel", "wins", "(II)I"⟩ ⟨"ChalkWarsModel", "wins", "(II)I"⟩ ∈ kw := kw_of (kpv_8 (q := (⟨"ChalkWarsModel", "wins", "(II)I"⟩, 31)) (i := 5) rfl) rfl
theorem kwm_996 : Cond.methodLink "ChalkWarsModel" 337 ⟨"ChalkWarsModel", "wins", "(II)I"⟩ ∈ kw := kw_of (ktb_7 (i := 205) rfl) rfl
theorem kwm_997 : Cond.code ⟨"ChalkWarsModel", "wins", "(II)I"⟩ prog_14_method_115_code 4 (some .int) ∈ kw := kw_of (ktb_7 (i := 208) rfl) rfl
theorem kwm_998 : Cond.instanceMethod ⟨"java/lang/String", "coder", "()B"⟩ ∈ kw := kw_of (ktb_3 (i := 49) rfl) rfl
theorem kwm_999 : Cond.selects "java/lang/String" ⟨"java/lang/String", "coder", "()B"⟩ ⟨"java/lang/String", "coder", "()B"⟩ ∈ kw := kw_of (ktb_3 (i := 50) rfl) rfl
theorem kwm_1000 : Cond.methodLink "java/lang/String" 335 ⟨"java/lang/String", "coder", "()B"⟩ ∈ kw := kw_of (ktb_3 (i := 48) rfl) rfl
theorem kwm_1001 : Cond.code ⟨"java/lang/String", "coder", "()B"⟩ prog_17_method_152_code 1 (some .byte) ∈ kw := kw_of (ktb_3 (i := 51) rfl) rfl
theorem kwm_1002 : Cond.instanceMethod ⟨"java/lang/String", "isLatin1", "()Z"⟩ ∈ kw := kw_of (ktb_3 (i := 59) rfl) rfl
theorem kwm_1003 : Cond.selects "java/lang/String" ⟨"java/lang/String", "isLatin1", "()Z"⟩ ⟨"java/lang/String", "isLatin1", "()Z"⟩ ∈ kw := kw_of (ktb_3 (i := 60) rfl) rfl
theorem kwm_1004 : Cond.methodLink "java/lang/String" 492 ⟨"java/lang/String", "isLatin1", "()Z"⟩ ∈ kw := kw_of (ktb_3 (i := 58) rfl) rfl
theorem kwm_1005 : Cond.code ⟨"java/lang/String", "isLatin1", "()Z"⟩ prog_17_method_154_code 1 (some .boolean) ∈ kw := kw_of (ktb_3 (i := 61) rfl) rfl
theorem kwm_1006 : Cond.static ⟨"java/lang/StringLatin1", "charAt", "([BI)C"⟩ ∈ kw := kw_of (ktb_3 (i := 63) rfl) rfl
theorem kwm_1007 : Cond.methodLink "java/lang/String" 495 ⟨"java/lang/StringLatin1", "charAt", "([BI)C"⟩ ∈ kw := kw_of (ktb_3 (i := 62) rfl) rfl
theorem kwm_1008 : Cond.code ⟨"java/lang/StringLatin1", "charAt", "([BI)C"⟩ prog_18_method_2_code 2 (some .char) ∈ kw := kw_of (ktb_3 (i := 64) rfl) rfl
theorem kwm_1009 : Cond.initialized "java/lang/StringLatin1" ∈ kw := kw_of (ktb_1 (i := 15) rfl) rfl
theorem kwm_1010 : Cond.methodLink "java/lang/StringLatin1" 9 ⟨"java/lang/String", "checkIndex", "(II)V"⟩ ∈ kw := kw_of (ktb_3 (i := 65) rfl) rfl
theorem kwm_1011 : Cond.static ⟨"java/lang/String", "checkIndex", "(II)V"⟩ ∈ kw := kw_of (ktb_3 (i := 66) rfl) rfl
theorem kwm_1012 : Cond.code ⟨"java/lang/String", "checkIndex", "(II)V"⟩ prog_17_method_155_code 2 none ∈ kw := kw_of (ktb_3 (i := 67) rfl) rfl
theorem kwm_1013 : Cond.code ⟨"jdk/internal/util/Preconditions", "checkIndex", "(IILjava/util/function/BiFunction;)I"⟩ prog_21_method_11_code 3 (some .int) ∈ kw := kw_of (ktb_3 (i := 72) rfl) rfl
theorem kwm_1014 : Cond.initialized "jdk/internal/util/Preconditions" ∈ kw := kw_of (ktb_1 (i := 16) rfl) rfl
theorem kwm_1015 : Cond.static ⟨"jdk/internal/util/Preconditions", "checkIndex", "(IILjava/util/function/BiFunction;)I"⟩ ∈ kw := kw_of (ktb_3 (i := 71) rfl) rfl
theorem kwm_1016 : Cond.methodLink "java/lang/String" 1059 ⟨"jdk/internal/util/Preconditions", "checkIndex", "(IILjava/util/function/BiFunction;)I"⟩ ∈ kw := kw_of (ktb_3 (i := 70) rfl) rfl
theorem kwm_1017 : Cond.fieldLink "java/lang/String" 1053 "jdk/internal/util/Preconditions" "SIOOBE_FORMATTER" "Ljava/util/function/BiFunction;" ∈ kw := kw_of (ktb_3 (i := 68) rfl) rfl
theorem kwm_1018 : Cond.instanceMethod ⟨"ChalkWars", "<init>", "()V"⟩ ∈ kw := kw_of (ktb_1 (i := 24) rfl) rfl
theorem kwm_1019 : Cond.methodLink "ChalkWarsLaw" 9 ⟨"ChalkWars", "<init>", "()V"⟩ ∈ kw := kw_of (ktb_1 (i := 23) rfl) rfl
theorem kwm_1020 : Cond.code ⟨"ChalkWars", "<init>", "()V"⟩ prog_1_method_1_code 2 none ∈ kw := kw_of (ktb_1 (i := 25) rfl) rfl
theorem kwm_1021 : Cond.instanceMethod ⟨"ChalkWarsModel", "<init>", "()V"⟩ ∈ kw := kw_of (ktb_5 (i := 141) rfl) rfl
theorem kwm_1022 : Cond.methodLink "ChalkWarsLaw" 12 ⟨"ChalkWarsModel", "<init>", "()V"⟩ ∈ kw := kw_of (ktb_5 (i := 140) rfl) rfl
theorem kwm_1023 : Cond.code ⟨"ChalkWarsModel", "<init>", "()V"⟩ prog_14_method_1_code 1 none ∈ kw := kw_of (ktb_5 (i := 142) rfl) rfl
theorem kwm_1024 : Cond.instanceMethod ⟨"ChalkWars", "hand", "(IIII)I"⟩ ∈ kw := kw_of (ktb_2 (i := 65) rfl) rfl
theorem kwm_1025 : Cond.selects "ChalkWars" ⟨"ChalkWars", "hand", "(IIII)I"⟩ ⟨"ChalkWars", "hand", "(IIII)I"⟩ ∈ kw := kw_of (ktb_2 (i := 66) rfl) rfl
theorem kwm_1026 : Cond.methodLink "ChalkWarsLaw" 13 ⟨"ChalkWars", "hand", "(IIII)I"⟩ ∈ kw := kw_of (ktb_2 (i := 64) rfl) rfl
theorem kwm_1027 : Cond.code ⟨"ChalkWars", "hand", "(IIII)I"⟩ prog_1_method_2_code 5 (some .int) ∈ kw := kw_of (ktb_2 (i := 67) rfl) rfl
theorem kwm_1028 : Cond.instanceMethod ⟨"ChalkWarsModel", "hand", "(IIII)I"⟩ ∈ kw := kw_of (ktb_6 (i := 1) rfl) rfl
theorem kwm_1029 : Cond.selects "ChalkWarsModel" ⟨"ChalkWarsModel", "hand", "(IIII)I"⟩ ⟨"ChalkWarsModel", "hand", "(IIII)I"⟩ ∈ kw := kw_of (ktb_6 (i := 2) rfl) rfl
theorem kwm_1030 : Cond.methodLink "ChalkWarsLaw" 17 ⟨"ChalkWarsModel", "hand", "(IIII)I"⟩ ∈ kw := kw_of (ktb_6 (i := 0) rfl) rfl
theorem kwm_1031 : Cond.code ⟨"ChalkWarsModel", "hand", "(IIII)I"⟩ prog_14_method_26_code 6 (some .int) ∈ kw := kw_of (ktb_6 (i := 3) rfl) rfl
theorem kwm_1032 : Cond.instanceMethod ⟨"ChalkWars", "handOf", "(II)I"⟩ ∈ kw := kw_of (ktb_2 (i := 89) rfl) rfl
theorem kwm_1033 : Cond.selects "ChalkWars" ⟨"ChalkWars", "handOf", "(II)I"⟩ ⟨"ChalkWars", "handOf", "(II)I"⟩ ∈ kw := kw_of (ktb_2 (i := 90) rfl) rfl
theorem kwm_1034 : Cond.methodLink "ChalkWarsLaw" 18 ⟨"ChalkWars", "handOf", "(II)I"⟩ ∈ kw := kw_of (ktb_2 (i := 88) rfl) rfl
theorem kwm_1035 : Cond.code ⟨"ChalkWars", "handOf", "(II)I"⟩ prog_1_method_3_code 4 (some .int) ∈ kw := kw_of (ktb_2 (i := 91) rfl) rfl
theorem kwm_1036 : Cond.instanceMethod ⟨"ChalkWarsModel", "handOf", "(II)I"⟩ ∈ kw := kw_of (ktb_6 (i := 21) rfl) rfl
theorem kwm_1037 : Cond.selects "ChalkWarsModel" ⟨"ChalkWarsModel", "handOf", "(II)I"⟩ ⟨"ChalkWarsModel", "handOf", "(II)I"⟩ ∈ kw := kw_of (ktb_6 (i := 22) rfl) rfl
theorem kwm_1038 : Cond.methodLink "ChalkWarsLaw" 22 ⟨"ChalkWarsModel", "handOf", "(II)I"⟩ ∈ kw := kw_of (ktb_6 (i := 20) rfl) rfl
theorem kwm_1039 : Cond.code ⟨"ChalkWarsModel", "handOf", "(II)I"⟩ prog_14_method_27_code 3 (some .int) ∈ kw := kw_of (ktb_6 (i := 23) rfl) rfl
theorem kwm_1040 : Cond.instanceMethod ⟨"ChalkWars", "change", "(III)I"⟩ ∈ kw := kw_of (ktb_2 (i := 141) rfl) rfl
theorem kwm_1041 : Cond.selects "ChalkWars" ⟨"ChalkWars", "change", "(III)I"⟩ ⟨"ChalkWars", "change", "(III)I"⟩ ∈ kw := kw_of (ktb_2 (i := 142) rfl) rfl
theorem kwm_1042 : Cond.methodLink "ChalkWarsLaw" 23 ⟨"ChalkWars", "change", "(III)I"⟩ ∈ kw := kw_of (ktb_2 (i := 140) rfl) rfl
theorem kwm_1043 : Cond.code ⟨"ChalkWars", "change", "(III)I"⟩ prog_1_method_4_code 4 (some .int) ∈ kw := kw_of (ktb_2 (i := 143) rfl) rfl
theorem kwm_1044 : Cond.instanceMethod ⟨"ChalkWarsModel", "change", "(III)I"⟩ ∈ kw := kw_of (ktb_6 (i := 66) rfl) rfl
theorem kwm_1045 : Cond.selects "ChalkWarsModel" ⟨"ChalkWarsModel", "change", "(III)I"⟩ ⟨"ChalkWarsModel", "change", "(III)I"⟩ ∈ kw := kw_of (ktb_6 (i := 67) rfl) rfl
theorem kwm_1046 : Cond.methodLink "ChalkWarsLaw" 27 ⟨"ChalkWarsModel", "change", "(III)I"⟩ ∈ kw := kw_of (ktb_6 (i := 65) rfl) rfl
theorem kwm_1047 : Cond.code ⟨"ChalkWarsModel", "change", "(III)I"⟩ prog_14_method_28_code 4 (some .int) ∈ kw := kw_of (ktb_6 (i := 68) rfl) rfl
theorem kwm_1048 : Cond.instanceMethod ⟨"ChalkWars", "remake", "(II)I"⟩ ∈ kw := kw_of (ktb_2 (i := 149) rfl) rfl
theorem kwm_1049 : Cond.selects "ChalkWars" ⟨"ChalkWars", "remake", "(II)I"⟩ ⟨"ChalkWars", "remake", "(II)I"⟩ ∈ kw := kw_of (ktb_2 (i := 150) rfl) rfl
theorem kwm_1050 : Cond.methodLink "ChalkWarsLaw" 28 ⟨"ChalkWars", "remake", "(II)I"⟩ ∈ kw := kw_of (ktb_2 (i := 148) rfl) rfl
theorem kwm_1051 : Cond.code ⟨"ChalkWars", "remake", "(II)I"⟩ prog_1_method_5_code 3 (some .int) ∈ kw := kw_of (ktb_2 (i := 151) rfl) rfl
theorem kwm_1052 : Cond.instanceMethod ⟨"ChalkWarsModel", "remake", "(II)I"⟩ ∈ kw := kw_of (ktb_6 (i := 74) rfl) rfl
theorem kwm_1053 : Cond.selects "ChalkWarsModel" ⟨"ChalkWarsModel", "remake", "(II)I"⟩ ⟨"ChalkWarsModel", "remake", "(II)I"⟩ ∈ kw := kw_of (ktb_6 (i := 75) rfl) rfl
theorem kwm_1054 : Cond.methodLink "ChalkWarsLaw" 31 ⟨"ChalkWarsModel", "remake", "(II)I"⟩ ∈ kw := kw_of (ktb_6 (i := 73) rfl) rfl
theorem kwm_1055 : Cond.code ⟨"ChalkWarsModel", "remake", "(II)I"⟩ prog_14_method_29_code 3 (some .int) ∈ kw := kw_of (ktb_6 (i := 76) rfl) rfl
theorem kwm_1056 : Cond.instanceMethod ⟨"ChalkWars", "set", "(II)I"⟩ ∈ kw := kw_of (ktb_2 (i := 153) rfl) rfl
theorem kwm_1057 : Cond.selects "ChalkWars" ⟨"ChalkWars", "set", "(II)I"⟩ ⟨"ChalkWars", "set", "(II)I"⟩ ∈ kw := kw_of (ktb_2 (i := 154) rfl) rfl
theorem kwm_1058 : Cond.methodLink "ChalkWarsLaw" 32 ⟨"ChalkWars", "set", "(II)I"⟩ ∈ kw := kw_of (ktb_2 (i := 152) rfl) rfl
theorem kwm_1059 : Cond.code ⟨"ChalkWars", "set", "(II)I"⟩ prog_1_method_6_code 3 (some .int) ∈ kw := kw_of (ktb_2 (i := 155) rfl) rfl
theorem kwm_1060 : Cond.instanceMethod ⟨"ChalkWarsModel", "set", "(II)I"⟩ ∈ kw := kw_of (ktb_6 (i := 78) rfl) rfl
theorem kwm_1061 : Cond.selects "ChalkWarsModel" ⟨"ChalkWarsModel", "set", "(II)I"⟩ ⟨"ChalkWarsModel", "set", "(II)I"⟩ ∈ kw := kw_of (ktb_6 (i := 79) rfl) rfl
theorem kwm_1062 : Cond.methodLink "ChalkWarsLaw" 35 ⟨"ChalkWarsModel", "set", "(II)I"⟩ ∈ kw := kw_of (ktb_6 (i := 77) rfl) rfl
theorem kwm_1063 : Cond.code ⟨"ChalkWarsModel", "set", "(II)I"⟩ prog_14_method_30_code 3 (some .int) ∈ kw := kw_of (ktb_6 (i := 80) rfl) rfl
theorem kwm_1064 : Cond.instanceMethod ⟨"ChalkWars", "edge", "(II)I"⟩ ∈ kw := kw_of (ktb_2 (i := 182) rfl) rfl
theorem kwm_1065 : Cond.selects "ChalkWars" ⟨"ChalkWars", "edge", "(II)I"⟩ ⟨"ChalkWars", "edge", "(II)I"⟩ ∈ kw := kw_of (ktb_2 (i := 183) rfl) rfl
theorem kwm_1066 : Cond.methodLink "ChalkWarsLaw" 36 ⟨"ChalkWars", "edge", "(II)I"⟩ ∈ kw := kw_of (ktb_2 (i := 181) rfl) rfl
theorem kwm_1067 : Cond.code ⟨"ChalkWars", "edge", "(II)I"⟩ prog_1_method_12_code 3 (some .int) ∈ kw := kw_of (ktb_2 (i := 184) rfl) rfl
theorem kwm_1068 : Cond.instanceMethod ⟨"ChalkWarsModel", "edge", "(II)I"⟩ ∈ kw := kw_of (ktb_6 (i := 84) rfl) rfl
theorem kwm_1069 : Cond.selects "ChalkWarsModel" ⟨"ChalkWarsModel", "edge", "(II)I"⟩ ⟨"ChalkWarsModel", "edge", "(II)I"⟩ ∈ kw := kw_of (ktb_6 (i := 85) rfl) rfl
theorem kwm_1070 : Cond.methodLink "ChalkWarsLaw" 39 ⟨"ChalkWarsModel", "edge", "(II)I"⟩ ∈ kw := kw_of (ktb_6 (i := 83) rfl) rfl
theorem kwm_1071 : Cond.code ⟨"ChalkWarsModel", "edge", "(II)I"⟩ prog_14_method_31_code 4 (some .int) ∈ kw := kw_of (ktb_6 (i := 86) rfl) rfl
theorem kwm_1072 : Cond.instanceMethod ⟨"ChalkWars", "anew", "()I"⟩ ∈ kw := kw_of (ktb_2 (i := 192) rfl) rfl
theorem kwm_1073 : Cond.selects "ChalkWars" ⟨"ChalkWars", "anew", "()I"⟩ ⟨"ChalkWars", "anew", "()I"⟩ ∈ kw := kw_of (ktb_2 (i := 193) rfl) rfl
theorem kwm_1074 : Cond.methodLink "ChalkWarsLaw" 40 ⟨"ChalkWars", "anew", "()I"⟩ ∈ kw := kw_of (ktb_2 (i := 191) rfl) rfl
theorem kwm_1075 : Cond.code ⟨"ChalkWars", "anew", "()I"⟩ prog_1_method_13_code 2 (some .int) ∈ kw := kw_of (ktb_2 (i := 194) rfl) rfl
theorem kwm_1076 : Cond.instanceMethod ⟨"ChalkWarsModel", "anew", "()I"⟩ ∈ kw := kw_of (ktb_6 (i := 91) rfl) rfl
theorem kwm_1077 : Cond.selects "ChalkWarsModel" ⟨"ChalkWarsModel", "anew", "()I"⟩ ⟨"ChalkWarsModel", "anew", "()I"⟩ ∈ kw := kw_of (ktb_6 (i := 92) rfl) rfl
theorem kwm_1078 : Cond.methodLink "ChalkWarsLaw" 44 ⟨"ChalkWarsModel", "anew", "()I"⟩ ∈ kw := kw_of (ktb_6 (i := 90) rfl) rfl
theorem kwm_1079 : Cond.code ⟨"ChalkWarsModel", "anew", "()I"⟩ prog_14_method_32_code 2 (some .int) ∈ kw := kw_of (ktb_6 (i := 93) rfl) rfl
theorem kwm_1080 : Cond.instanceMethod ⟨"ChalkWars", "state", "(I)I"⟩ ∈ kw := kw_of (ktb_2 (i := 196) rfl) rfl
theorem kwm_1081 : Cond.selects "ChalkWars" ⟨"ChalkWars", "state", "(I)I"⟩ ⟨"ChalkWars", "state", "(I)I"⟩ ∈ kw := kw_of (ktb_2 (i := 197) rfl) rfl
theorem kwm_1082 : Cond.methodLink "ChalkWarsLaw" 45 ⟨"ChalkWars", "state", "(I)I"⟩ ∈ kw := kw_of (ktb_2 (i := 195) rfl) rfl
theorem kwm_1083 : Cond.code ⟨"ChalkWars", "state", "(I)I"⟩ prog_1_method_14_code 2 (some .int) ∈ kw := kw_of (ktb_2 (i := 198) rfl) rfl
theorem kwm_1084 : Cond.instanceMethod ⟨"ChalkWarsModel", "state", "(I)I"⟩ ∈ kw := kw_of (ktb_6 (i := 95) rfl) rfl
theorem kwm_1085 : Cond.selects "ChalkWarsModel" ⟨"ChalkWarsModel", "state", "(I)I"⟩ ⟨"ChalkWarsModel", "state", "(I)I"⟩ ∈ kw := kw_of (ktb_6 (i := 96) rfl) rfl
theorem kwm_1086 : Cond.methodLink "ChalkWarsLaw" 49 ⟨"ChalkWarsModel", "state", "(I)I"⟩ ∈ kw := kw_of (ktb_6 (i := 94) rfl) rfl
theorem kwm_1087 : Cond.code ⟨"ChalkWarsModel", "state", "(I)I"⟩ prog_14_method_33_code 2 (some .int) ∈ kw := kw_of (ktb_6 (i := 97) rfl) rfl
theorem kwm_1088 : Cond.instanceMethod ⟨"ChalkWars", "feed", "(JI)I"⟩ ∈ kw := kw_of (ktb_2 (i := 220) rfl) rfl
theorem kwm_1089 : Cond.selects "ChalkWars" ⟨"ChalkWars", "feed", "(JI)I"⟩ ⟨"ChalkWars", "feed", "(JI)I"⟩ ∈ kw := kw_of (ktb_2 (i := 221) rfl) rfl
theorem kwm_1090 : Cond.methodLink "ChalkWarsLaw" 52 ⟨"ChalkWars", "feed", "(JI)I"⟩ ∈ kw := kw_of (ktb_2 (i := 219) rfl) rfl
theorem kwm_1091 : Cond.code ⟨"ChalkWars", "feed", "(JI)I"⟩ prog_1_method_23_code 5 (some .int) ∈ kw := kw_of (ktb_2 (i := 222) rfl) rfl
theorem kwm_1092 : Cond.instanceMethod ⟨"ChalkWarsModel", "feed", "(JI)I"⟩ ∈ kw := kw_of (ktb_6 (i := 117) rfl) rfl
theorem kwm_1093 : Cond.selects "ChalkWarsModel" ⟨"ChalkWarsModel", "feed", "(JI)I"⟩ ⟨"ChalkWarsModel", "feed", "(JI)I"⟩ ∈ kw := kw_of (ktb_6 (i := 118) rfl) rfl
theorem kwm_1094 : Cond.methodLink "ChalkWarsLaw" 56 ⟨"ChalkWarsModel", "feed", "(JI)I"⟩ ∈ kw := kw_of (ktb_6 (i := 116) rfl) rfl
theorem kwm_1095 : Cond.code ⟨"ChalkWarsModel", "feed", "(JI)I"⟩ prog_14_method_34_code 5 (some .int) ∈ kw := kw_of (ktb_6 (i := 119) rfl) rfl
theorem kwm_1096 : Cond.instanceMethod ⟨"ChalkWars", "rules", "()I"⟩ ∈ kw := kw_of (ktb_2 (i := 228) rfl) rfl
theorem kwm_1097 : Cond.selects "ChalkWars" ⟨"ChalkWars", "rules", "()I"⟩ ⟨"ChalkWars", "rules", "()I"⟩ ∈ kw := kw_of (ktb_2 (i := 229) rfl) rfl
theorem kwm_1098 : Cond.methodLink "ChalkWarsLaw" 57 ⟨"ChalkWars", "rules", "()I"⟩ ∈ kw := kw_of (ktb_2 (i := 227) rfl) rfl
theorem kwm_1099 : Cond.code ⟨"ChalkWars", "rules", "()I"⟩ prog_1_method_24_code 2 (some .int) ∈ kw := kw_of (ktb_2 (i := 230) rfl) rfl
theorem kwm_1100 : Cond.instanceMethod ⟨"ChalkWarsModel", "rules", "()I"⟩ ∈ kw := kw_of (ktb_6 (i := 122) rfl) rfl
theorem kwm_1101 : Cond.selects "ChalkWarsModel" ⟨"ChalkWarsModel", "rules", "()I"⟩ ⟨"ChalkWarsModel", "rules", "()I"⟩ ∈ kw := kw_of (ktb_6 (i := 123) rfl) rfl
theorem kwm_1102 : Cond.methodLink "ChalkWarsLaw" 60 ⟨"ChalkWarsModel", "rules", "()I"⟩ ∈ kw := kw_of (ktb_6 (i := 121) rfl) rfl
theorem kwm_1103 : Cond.code ⟨"ChalkWarsModel", "rules", "()I"⟩ prog_14_method_47_code 1 (some .int) ∈ kw := kw_of (ktb_6 (i := 124) rfl) rfl
theorem kwm_1104 : Cond.instanceMethod ⟨"ChalkWars", "dusk", "()I"⟩ ∈ kw := kw_of (ktb_3 (i := 154) rfl) rfl
theorem kwm_1105 : Cond.selects "ChalkWars" ⟨"ChalkWars", "dusk", "()I"⟩ ⟨"ChalkWars", "dusk", "()I"⟩ ∈ kw := kw_of (ktb_3 (i := 155) rfl) rfl
theorem kwm_1106 : Cond.methodLink "ChalkWarsLaw" 61 ⟨"ChalkWars", "dusk", "()I"⟩ ∈ kw := kw_of (ktb_3 (i := 153) rfl) rfl
theorem kwm_1107 : Cond.code ⟨"ChalkWars", "dusk", "()I"⟩ prog_1_method_25_code 1 (some .int) ∈ kw := kw_of (ktb_3 (i := 156) rfl) rfl
theorem kwm_1108 : Cond.instanceMethod ⟨"ChalkWarsModel", "dusk", "()I"⟩ ∈ kw := kw_of (ktb_6 (i := 186) rfl) rfl
theorem kwm_1109 : Cond.selects "ChalkWarsModel" ⟨"ChalkWarsModel", "dusk", "()I"⟩ ⟨"ChalkWarsModel", "dusk", "()I"⟩ ∈ kw := kw_of (ktb_6 (i := 187) rfl) rfl
theorem kwm_1110 : Cond.methodLink "ChalkWarsLaw" 64 ⟨"ChalkWarsModel", "dusk", "()I"⟩ ∈ kw := kw_of (ktb_6 (i := 185) rfl) rfl
theorem kwm_1111 : Cond.code ⟨"ChalkWarsModel", "dusk", "()I"⟩ prog_14_method_56_code 1 (some .int) ∈ kw := kw_of (ktb_6 (i := 188) rfl) rfl
theorem kwm_1112 : Cond.instanceMethod ⟨"ChalkWars", "on", "(I)I"⟩ ∈ kw := kw_of (ktb_3 (i := 198) rfl) rfl
theorem kwm_1113 : Cond.selects "ChalkWars" ⟨"ChalkWars", "on", "(I)I"⟩ ⟨"ChalkWars", "on", "(I)I"⟩ ∈ kw := kw_of (ktb_3 (i := 199) rfl) rfl
theorem kwm_1114 : Cond.methodLink "ChalkWarsLaw" 65 ⟨"ChalkWars", "on", "(I)I"⟩ ∈ kw := kw_of (ktb_3 (i := 197) rfl) rfl
theorem kwm_1115 : Cond.code ⟨"ChalkWars", "on", "(I)I"⟩ prog_1_method_26_code 2 (some .int) ∈ kw := kw_of (ktb_3 (i := 200) rfl) rfl
theorem kwm_1116 : Cond.instanceMethod ⟨"ChalkWarsModel", "on", "(I)I"⟩ ∈ kw := kw_of (ktb_6 (i := 213) rfl) rfl
theorem kwm_1117 : Cond.selects "ChalkWarsModel" ⟨"ChalkWarsModel", "on", "(I)I"⟩ ⟨"ChalkWarsModel", "on", "(I)I"⟩ ∈ kw := kw_of (ktb_6 (i := 214) rfl) rfl
theorem kwm_1118 : Cond.methodLink "ChalkWarsLaw" 68 ⟨"ChalkWarsModel", "on", "(I)I"⟩ ∈ kw := kw_of (ktb_6 (i := 212) rfl) rfl
theorem kwm_1119 : Cond.code ⟨"ChalkWarsModel", "on", "(I)I"⟩ prog_14_method_58_code 2 (some .int) ∈ kw := kw_of (ktb_6 (i := 215) rfl) rfl
theorem kwm_1120 : Cond.instanceMethod ⟨"ChalkWars", "when", "(I)I"⟩ ∈ kw := kw_of (ktb_3 (i := 216) rfl) rfl
theorem kwm_1121 : Cond.selects "ChalkWars" ⟨"ChalkWars", "when", "(I)I"⟩ ⟨"ChalkWars", "when", "(I)I"⟩ ∈ kw := kw_of (ktb_3 (i := 217) rfl) rfl
theorem kwm_1122 : Cond.methodLink "ChalkWarsLaw" 69 ⟨"ChalkWars", "when", "(I)I"⟩ ∈ kw := kw_of (ktb_3 (i := 215) rfl) rfl
theorem kwm_1123 : Cond.code ⟨"ChalkWars", "when", "(I)I"⟩ prog_1_method_27_code 4 (some .int) ∈ kw := kw_of (ktb_3 (i := 218) rfl) rfl
theorem kwm_1124 : Cond.instanceMethod ⟨"ChalkWarsModel", "when", "(I)I"⟩ ∈ kw := kw_of (ktb_6 (i := 221) rfl) rfl
theorem kwm_1125 : Cond.selects "ChalkWarsModel" ⟨"ChalkWarsModel", "when", "(I)I"⟩ ⟨"ChalkWarsModel", "when", "(I)I"⟩ ∈ kw := kw_of (ktb_6 (i := 222) rfl) rfl
theorem kwm_1126 : Cond.methodLink "ChalkWarsLaw" 72 ⟨"ChalkWarsModel", "when", "(I)I"⟩ ∈ kw := kw_of (ktb_6 (i := 220) rfl) rfl
theorem kwm_1127 : Cond.code ⟨"ChalkWarsModel", "when", "(I)I"⟩ prog_14_method_59_code 3 (some .int) ∈ kw := kw_of (ktb_6 (i := 223) rfl) rfl
theorem kwm_1128 : Cond.instanceMethod ⟨"ChalkWars", "chalkFor", "(I)I"⟩ ∈ kw := kw_of (ktb_3 (i := 223) rfl) rfl
theorem kwm_1129 : Cond.selects "ChalkWars" ⟨"ChalkWars", "chalkFor", "(I)I"⟩ ⟨"ChalkWars", "chalkFor", "(I)I"⟩ ∈ kw := kw_of (ktb_3 (i := 224) rfl) rfl
theorem kwm_1130 : Cond.methodLink "ChalkWarsLaw" 73 ⟨"ChalkWars", "chalkFor", "(I)I"⟩ ∈ kw := kw_of (ktb_3 (i := 222) rfl) rfl
theorem kwm_1131 : Cond.code ⟨"ChalkWars", "chalkFor", "(I)I"⟩ prog_1_method_28_code 2 (some .int) ∈ kw := kw_of (ktb_3 (i := 225) rfl) rfl
theorem kwm_1132 : Cond.instanceMethod ⟨"ChalkWarsModel", "chalkFor", "(I)I"⟩ ∈ kw := kw_of (ktb_6 (i := 225) rfl) rfl
theorem kwm_1133 : Cond.selects "ChalkWarsModel" ⟨"ChalkWarsModel", "chalkFor", "(I)I"⟩ ⟨"ChalkWarsModel", "chalkFor", "(I)I"⟩ ∈ kw := kw_of (ktb_6 (i := 226) rfl) rfl
theorem kwm_1134 : Cond.methodLink "ChalkWarsLaw" 76 ⟨"ChalkWarsModel", "chalkFor", "(I)I"⟩ ∈ kw := kw_of (ktb_6 (i := 224) rfl) rfl
theorem kwm_1135 : Cond.code ⟨"ChalkWarsModel", "chalkFor", "(I)I"⟩ prog_14_method_61_code 2 (some .int) ∈ kw := kw_of (ktb_6 (i := 227) rfl) rfl
theorem kwm_1136 : Cond.instanceMethod ⟨"ChalkWars", "facingFor", "(I)I"⟩ ∈ kw := kw_of (ktb_3 (i := 231) rfl) rfl
theorem kwm_1137 : Cond.selects "ChalkWars" ⟨"ChalkWars", "facingFor", "(I)I"⟩ ⟨"ChalkWars", "facingFor", "(I)I"⟩ ∈ kw := kw_of (ktb_3 (i := 232) rfl) rfl
theorem kwm_1138 : Cond.methodLink "ChalkWarsLaw" 77 ⟨"ChalkWars", "facingFor", "(I)I"⟩ ∈ kw := kw_of (ktb_3 (i := 230) rfl) rfl
theorem kwm_1139 : Cond.code ⟨"ChalkWars", "facingFor", "(I)I"⟩ prog_1_method_29_code 2 (some .int) ∈ kw := kw_of (ktb_3 (i := 233) rfl) rfl
theorem kwm_1140 : Cond.instanceMethod ⟨"ChalkWarsModel", "facingFor", "(I)I"⟩ ∈ kw := kw_of (ktb_6 (i := 233) rfl) rfl
theorem kwm_1141 : Cond.selects "ChalkWarsModel" ⟨"ChalkWarsModel", "facingFor", "(I)I"⟩ ⟨"ChalkWarsModel", "facingFor", "(I)I"⟩ ∈ kw := kw_of (ktb_6 (i := 234) rfl) rfl
theorem kwm_1142 : Cond.methodLink "ChalkWarsLaw" 80 ⟨"ChalkWarsModel", "facingFor", "(I)I"⟩ ∈ kw := kw_of (ktb_6 (i := 232) rfl) rfl
theorem kwm_1143 : Cond.code ⟨"ChalkWarsModel", "facingFor", "(I)I"⟩ prog_14_method_62_code 2 (some .int) ∈ kw := kw_of (ktb_6 (i := 235) rfl) rfl
theorem kwm_1144 : Cond.instanceMethod ⟨"ChalkWars", "cut", "(II)I"⟩ ∈ kw := kw_of (ktb_3 (i := 235) rfl) rfl
theorem kwm_1145 : Cond.selects "ChalkWars" ⟨"ChalkWars", "cut", "(II)I"⟩ ⟨"ChalkWars", "cut", "(II)I"⟩ ∈ kw := kw_of (ktb_3 (i := 236) rfl) rfl
theorem kwm_1146 : Cond.methodLink "ChalkWarsLaw" 81 ⟨"ChalkWars", "cut", "(II)I"⟩ ∈ kw := kw_of (ktb_3 (i := 234) rfl) rfl
theorem kwm_1147 : Cond.code ⟨"ChalkWars", "cut", "(II)I"⟩ prog_1_method_32_code 4 (some .int) ∈ kw := kw_of (ktb_3 (i := 237) rfl) rfl
theorem kwm_1148 : Cond.instanceMethod ⟨"ChalkWarsModel", "cut", "(II)I"⟩ ∈ kw := kw_of (ktb_6 (i := 237) rfl) rfl
theorem kwm_1149 : Cond.selects "ChalkWarsModel" ⟨"ChalkWarsModel", "cut", "(II)I"⟩ ⟨"ChalkWarsModel", "cut", "(II)I"⟩ ∈ kw := kw_of (ktb_6 (i := 238) rfl) rfl
theorem kwm_1150 : Cond.methodLink "ChalkWarsLaw" 84 ⟨"ChalkWarsModel", "cut", "(II)I"⟩ ∈ kw := kw_of (ktb_6 (i := 236) rfl) rfl
theorem kwm_1151 : Cond.code ⟨"ChalkWarsModel", "cut", "(II)I"⟩ prog_14_method_64_code 5 (some .int) ∈ kw := kw_of (ktb_6 (i := 239) rfl) rfl
theorem kwm_1152 : Cond.instanceMethod ⟨"ChalkWars", "way", "(II)I"⟩ ∈ kw := kw_of (ktb_4 (i := 7) rfl) rfl
theorem kwm_1153 : Cond.selects "ChalkWars" ⟨"ChalkWars", "way", "(II)I"⟩ ⟨"ChalkWars", "way", "(II)I"⟩ ∈ kw := kw_of (ktb_4 (i := 8) rfl) rfl
theorem kwm_1154 : Cond.methodLink "ChalkWarsLaw" 85 ⟨"ChalkWars", "way", "(II)I"⟩ ∈ kw := kw_of (ktb_4 (i := 6) rfl) rfl
theorem kwm_1155 : Cond.code ⟨"ChalkWars", "way", "(II)I"⟩ prog_1_method_34_code 7 (some .int) ∈ kw := kw_of (ktb_4 (i := 9) rfl) rfl
theorem kwm_1156 : Cond.instanceMethod ⟨"ChalkWarsModel", "way", "(II)I"⟩ ∈ kw := kw_of (ktb_7 (i := 6) rfl) rfl
theorem kwm_1157 : Cond.selects "ChalkWarsModel" ⟨"ChalkWarsModel", "way", "(II)I"⟩ ⟨"ChalkWarsModel", "way", "(II)I"⟩ ∈ kw := kw_of (ktb_7 (i := 7) rfl) rfl
theorem kwm_1158 : Cond.methodLink "ChalkWarsLaw" 88 ⟨"ChalkWarsModel", "way", "(II)I"⟩ ∈ kw := kw_of (ktb_7 (i := 5) rfl) rfl
theorem kwm_1159 : Cond.code ⟨"ChalkWarsModel", "way", "(II)I"⟩ prog_14_method_65_code 5 (some .int) ∈ kw := kw_of (ktb_7 (i := 8) rfl) rfl
theorem kwm_1160 : Cond.instanceMethod ⟨"ChalkWars", "bridges", "()I"⟩ ∈ kw := kw_of (ktb_4 (i := 14) rfl) rfl
theorem kwm_1161 : Cond.selects "ChalkWars" ⟨"ChalkWars", "bridges", "()I"⟩ ⟨"ChalkWars", "bridges", "()I"⟩ ∈ kw := kw_of (ktb_4 (i := 15) rfl) rfl
theorem kwm_1162 : Cond.methodLink "ChalkWarsLaw" 89 ⟨"ChalkWars", "bridges", "()I"⟩ ∈ kw := kw_of (ktb_4 (i := 13) rfl) rfl
theorem kwm_1163 : Cond.code ⟨"ChalkWars", "bridges", "()I"⟩ prog_1_method_35_code 4 (some .int) ∈ kw := kw_of (ktb_4 (i := 16) rfl) rfl
theorem kwm_1164 : Cond.instanceMethod ⟨"ChalkWarsModel", "bridges", "()I"⟩ ∈ kw := kw_of (ktb_7 (i := 10) rfl) rfl
theorem kwm_1165 : Cond.selects "ChalkWarsModel" ⟨"ChalkWarsModel", "bridges", "()I"⟩ ⟨"ChalkWarsModel", "bridges", "()I"⟩ ∈ kw := kw_of (ktb_7 (i := 11) rfl) rfl
theorem kwm_1166 : Cond.methodLink "ChalkWarsLaw" 92 ⟨"ChalkWarsModel", "bridges", "()I"⟩ ∈ kw := kw_of (ktb_7 (i := 9) rfl) rfl
theorem kwm_1167 : Cond.code ⟨"ChalkWarsModel", "bridges", "()I"⟩ prog_14_method_66_code 5 (some .int) ∈ kw := kw_of (ktb_7 (i := 12) rfl) rfl
theorem kwm_1168 : Cond.instanceMethod ⟨"ChalkWars", "best", "(I)I"⟩ ∈ kw := kw_of (ktb_4 (i := 19) rfl) rfl
theorem kwm_1169 : Cond.selects "ChalkWars" ⟨"ChalkWars", "best", "(I)I"⟩ ⟨"ChalkWars", "best", "(I)I"⟩ ∈ kw := kw_of (ktb_4 (i := 20) rfl) rfl
theorem kwm_1170 : Cond.methodLink "ChalkWarsLaw" 93 ⟨"ChalkWars", "best", "(I)I"⟩ ∈ kw := kw_of (ktb_4 (i := 18) rfl) rfl
theorem kwm_1171 : Cond.code ⟨"ChalkWars", "best", "(I)I"⟩ prog_1_method_36_code 2 (some .int) ∈ kw := kw_of (ktb_4 (i := 21) rfl) rfl
theorem kwm_1172 : Cond.instanceMethod ⟨"ChalkWarsModel", "best", "(I)I"⟩ ∈ kw := kw_of (ktb_7 (i := 14) rfl) rfl
theorem kwm_1173 : Cond.selects "ChalkWarsModel" ⟨"ChalkWarsModel", "best", "(I)I"⟩ ⟨"ChalkWarsModel", "best", "(I)I"⟩ ∈ kw := kw_of (ktb_7 (i := 15) rfl) rfl
theorem kwm_1174 : Cond.methodLink "ChalkWarsLaw" 96 ⟨"ChalkWarsModel", "best", "(I)I"⟩ ∈ kw := kw_of (ktb_7 (i := 13) rfl) rfl
theorem kwm_1175 : Cond.code ⟨"ChalkWarsModel", "best", "(I)I"⟩ prog_14_method_72_code 2 (some .int) ∈ kw := kw_of (ktb_7 (i := 16) rfl) rfl
theorem kwm_1176 : Cond.instanceMethod ⟨"ChalkWars", "ith", "(II)I"⟩ ∈ kw := kw_of (ktb_4 (i := 52) rfl) rfl
theorem kwm_1177 : Cond.selects "ChalkWars" ⟨"ChalkWars", "ith", "(II)I"⟩ ⟨"ChalkWars", "ith", "(II)I"⟩ ∈ kw := kw_of (ktb_4 (i := 53) rfl) rfl
theorem kwm_1178 : Cond.methodLink "ChalkWarsLaw" 97 ⟨"ChalkWars", "ith", "(II)I"⟩ ∈ kw := kw_of (ktb_4 (i := 51) rfl) rfl
theorem kwm_1179 : Cond.code ⟨"ChalkWars", "ith", "(II)I"⟩ prog_1_method_37_code 3 (some .int) ∈ kw := kw_of (ktb_4 (i := 54) rfl) rfl
theorem kwm_1180 : Cond.instanceMethod ⟨"ChalkWarsModel", "ith", "(II)I"⟩ ∈ kw := kw_of (ktb_7 (i := 37) rfl) rfl
theorem kwm_1181 : Cond.selects "ChalkWarsModel" ⟨"ChalkWarsModel", "ith", "(II)I"⟩ ⟨"ChalkWarsModel", "ith", "(II)I"⟩ ∈ kw := kw_of (ktb_7 (i := 38) rfl) rfl
theorem kwm_1182 : Cond.methodLink "ChalkWarsLaw" 100 ⟨"ChalkWarsModel", "ith", "(II)I"⟩ ∈ kw := kw_of (ktb_7 (i := 36) rfl) rfl
theorem kwm_1183 : Cond.code ⟨"ChalkWarsModel", "ith", "(II)I"⟩ prog_14_method_73_code 4 (some .int) ∈ kw := kw_of (ktb_7 (i := 39) rfl) rfl
theorem kwm_1184 : Cond.instanceMethod ⟨"ChalkWars", "ways", "(I)I"⟩ ∈ kw := kw_of (ktb_4 (i := 56) rfl) rfl
theorem kwm_1185 : Cond.selects "ChalkWars" ⟨"ChalkWars", "ways", "(I)I"⟩ ⟨"ChalkWars", "ways", "(I)I"⟩ ∈ kw := kw_of (ktb_4 (i := 57) rfl) rfl
theorem kwm_1186 : Cond.methodLink "ChalkWarsLaw" 101 ⟨"ChalkWars", "ways", "(I)I"⟩ ∈ kw := kw_of (ktb_4 (i := 55) rfl) rfl
theorem kwm_1187 : Cond.code ⟨"ChalkWars", "ways", "(I)I"⟩ prog_1_method_38_code 2 (some .int) ∈ kw := kw_of (ktb_4 (i := 58) rfl) rfl
theorem kwm_1188 : Cond.instanceMethod ⟨"ChalkWarsModel", "ways", "(I)I"⟩ ∈ kw := kw_of (ktb_7 (i := 41) rfl) rfl
theorem kwm_1189 : Cond.selects "ChalkWarsModel" ⟨"ChalkWarsModel", "ways", "(I)I"⟩ ⟨"ChalkWarsModel", "ways", "(I)I"⟩ ∈ kw := kw_of (ktb_7 (i := 42) rfl) rfl
theorem kwm_1190 : Cond.methodLink "ChalkWarsLaw" 104 ⟨"ChalkWarsModel", "ways", "(I)I"⟩ ∈ kw := kw_of (ktb_7 (i := 40) rfl) rfl
theorem kwm_1191 : Cond.code ⟨"ChalkWarsModel", "ways", "(I)I"⟩ prog_14_method_74_code 2 (some .int) ∈ kw := kw_of (ktb_7 (i := 43) rfl) rfl
theorem kwm_1192 : Cond.instanceMethod ⟨"ChalkWars", "siege", "(II)I"⟩ ∈ kw := kw_of (ktb_4 (i := 60) rfl) rfl
theorem kwm_1193 : Cond.selects "ChalkWars" ⟨"ChalkWars", "siege", "(II)I"⟩ ⟨"ChalkWars", "siege", "(II)I"⟩ ∈ kw := kw_of (ktb_4 (i := 61) rfl) rfl
theorem kwm_1194 : Cond.methodLink "ChalkWarsLaw" 105 ⟨"ChalkWars", "siege", "(II)I"⟩ ∈ kw := kw_of (ktb_4 (i := 59) rfl) rfl
theorem kwm_1195 : Cond.code ⟨"ChalkWars", "siege", "(II)I"⟩ prog_1_method_39_code 3 (some .int) ∈ kw := kw_of (ktb_4 (i := 62) rfl) rfl
theorem kwm_1196 : Cond.instanceMethod ⟨"ChalkWarsModel", "siege", "(II)I"⟩ ∈ kw := kw_of (ktb_7 (i := 45) rfl) rfl
theorem kwm_1197 : Cond.selects "ChalkWarsModel" ⟨"ChalkWarsModel", "siege", "(II)I"⟩ ⟨"ChalkWarsModel", "siege", "(II)I"⟩ ∈ kw := kw_of (ktb_7 (i := 46) rfl) rfl
theorem kwm_1198 : Cond.methodLink "ChalkWarsLaw" 108 ⟨"ChalkWarsModel", "siege", "(II)I"⟩ ∈ kw := kw_of (ktb_7 (i := 44) rfl) rfl
theorem kwm_1199 : Cond.code ⟨"ChalkWarsModel", "siege", "(II)I"⟩ prog_14_method_76_code 9 (some .int) ∈ kw := kw_of (ktb_7 (i := 47) rfl) rfl
theorem kwm_1200 : Cond.instanceMethod ⟨"ChalkWars", "bars", "(II)I"⟩ ∈ kw := kw_of (ktb_4 (i := 64) rfl) rfl
theorem kwm_1201 : Cond.selects "ChalkWars" ⟨"ChalkWars", "bars", "(II)I"⟩ ⟨"ChalkWars", "bars", "(II)I"⟩ ∈ kw := kw_of (ktb_4 (i := 65) rfl) rfl
theorem kwm_1202 : Cond.methodLink "ChalkWarsLaw" 109 ⟨"ChalkWars", "bars", "(II)I"⟩ ∈ kw := kw_of (ktb_4 (i := 63) rfl) rfl
theorem kwm_1203 : Cond.code ⟨"ChalkWars", "bars", "(II)I"⟩ prog_1_method_40_code 3 (some .int) ∈ kw := kw_of (ktb_4 (i := 66) rfl) rfl
theorem kwm_1204 : Cond.instanceMethod ⟨"ChalkWarsModel", "bars", "(II)I"⟩ ∈ kw := kw_of (ktb_7 (i := 53) rfl) rfl
theorem kwm_1205 : Cond.selects "ChalkWarsModel" ⟨"ChalkWarsModel", "bars", "(II)I"⟩ ⟨"ChalkWarsModel", "bars", "(II)I"⟩ ∈ kw := kw_of (ktb_7 (i := 54) rfl) rfl
theorem kwm_1206 : Cond.methodLink "ChalkWarsLaw" 112 ⟨"ChalkWarsModel", "bars", "(II)I"⟩ ∈ kw := kw_of (ktb_7 (i := 52) rfl) rfl
theorem kwm_1207 : Cond.code ⟨"ChalkWarsModel", "bars", "(II)I"⟩ prog_14_method_77_code 8 (some .int) ∈ kw := kw_of (ktb_7 (i := 55) rfl) rfl
theorem kwm_1208 : Cond.instanceMethod ⟨"ChalkWars", "game", "(I)I"⟩ ∈ kw := kw_of (ktb_4 (i := 71) rfl) rfl
theorem kwm_1209 : Cond.selects "ChalkWars" ⟨"ChalkWars", "game", "(I)I"⟩ ⟨"ChalkWars", "game", "(I)I"⟩ ∈ kw := kw_of (ktb_4 (i := 72) rfl) rfl
theorem kwm_1210 : Cond.methodLink "ChalkWarsLaw" 113 ⟨"ChalkWars", "game", "(I)I"⟩ ∈ kw := kw_of (ktb_4 (i := 70) rfl) rfl
theorem kwm_1211 : Cond.code ⟨"ChalkWars", "game", "(I)I"⟩ prog_1_method_43_code 2 (some .int) ∈ kw := kw_of (ktb_4 (i := 73) rfl) rfl
theorem kwm_1212 : Cond.instanceMethod ⟨"ChalkWarsModel", "game", "(I)I"⟩ ∈ kw := kw_of (ktb_7 (i := 57) rfl) rfl
theorem kwm_1213 : Cond.selects "ChalkWarsModel" ⟨"ChalkWarsModel", "game", "(I)I"⟩ ⟨"ChalkWarsModel", "game", "(I)I"⟩ ∈ kw := kw_of (ktb_7 (i := 58) rfl) rfl
theorem kwm_1214 : Cond.methodLink "ChalkWarsLaw" 116 ⟨"ChalkWarsModel", "game", "(I)I"⟩ ∈ kw := kw_of (ktb_7 (i := 56) rfl) rfl
theorem kwm_1215 : Cond.code ⟨"ChalkWarsModel", "game", "(I)I"⟩ prog_14_method_79_code 2 (some .int) ∈ kw := kw_of (ktb_7 (i := 59) rfl) rfl
theorem kwm_1216 : Cond.instanceMethod ⟨"ChalkWars", "play", "(I)I"⟩ ∈ kw := kw_of (ktb_4 (i := 83) rfl) rfl
theorem kwm_1217 : Cond.selects "ChalkWars" ⟨"ChalkWars", "play", "(I)I"⟩ ⟨"ChalkWars", "play", "(I)I"⟩ ∈ kw := kw_of (ktb_4 (i := 84) rfl) rfl
theorem kwm_1218 : Cond.methodLink "ChalkWarsLaw" 117 ⟨"ChalkWars", "play", "(I)I"⟩ ∈ kw := kw_of (ktb_4 (i := 82) rfl) rfl
theorem kwm_1219 : Cond.code ⟨"ChalkWars", "play", "(I)I"⟩ prog_1_method_44_code 2 (some .int) ∈ kw := kw_of (ktb_4 (i := 85) rfl) rfl
theorem kwm_1220 : Cond.instanceMethod ⟨"ChalkWarsModel", "play", "(I)I"⟩ ∈ kw := kw_of (ktb_7 (i := 65) rfl) rfl
theorem kwm_1221 : Cond.selects "ChalkWarsModel" ⟨"ChalkWarsModel", "play", "(I)I"⟩ ⟨"ChalkWarsModel", "play", "(I)I"⟩ ∈ kw := kw_of (ktb_7 (i := 66) rfl) rfl
theorem kwm_1222 : Cond.methodLink "ChalkWarsLaw" 120 ⟨"ChalkWarsModel", "play", "(I)I"⟩ ∈ kw := kw_of (ktb_7 (i := 64) rfl) rfl
theorem kwm_1223 : Cond.code ⟨"ChalkWarsModel", "play", "(I)I"⟩ prog_14_method_80_code 5 (some .int) ∈ kw := kw_of (ktb_7 (i := 67) rfl) rfl
theorem kwm_1224 : Cond.instanceMethod ⟨"ChalkWars", "report", "(III)I"⟩ ∈ kw := kw_of (ktb_4 (i := 87) rfl) rfl
theorem kwm_1225 : Cond.selects "ChalkWars" ⟨"ChalkWars", "report", "(III)I"⟩ ⟨"ChalkWars", "report", "(III)I"⟩ ∈ kw := kw_of (ktb_4 (i := 88) rfl) rfl
theorem kwm_1226 : Cond.methodLink "ChalkWarsLaw" 121 ⟨"ChalkWars", "report", "(III)I"⟩ ∈ kw := kw_of (ktb_4 (i := 86) rfl) rfl
theorem kwm_1227 : Cond.code ⟨"ChalkWars", "report", "(III)I"⟩ prog_1_method_45_code 5 (some .int) ∈ kw := kw_of (ktb_4 (i := 89) rfl) rfl
theorem kwm_1228 : Cond.instanceMethod ⟨"ChalkWarsModel", "report", "(III)I"⟩ ∈ kw := kw_of (ktb_7 (i := 69) rfl) rfl
theorem kwm_1229 : Cond.selects "ChalkWarsModel" ⟨"ChalkWarsModel", "report", "(III)I"⟩ ⟨"ChalkWarsModel", "report", "(III)I"⟩ ∈ kw := kw_of (ktb_7 (i := 70) rfl) rfl
theorem kwm_1230 : Cond.methodLink "ChalkWarsLaw" 124 ⟨"ChalkWarsModel", "report", "(III)I"⟩ ∈ kw := kw_of (ktb_7 (i := 68) rfl) rfl
theorem kwm_1231 : Cond.code ⟨"ChalkWarsModel", "report", "(III)I"⟩ prog_14_method_81_code 5 (some .int) ∈ kw := kw_of (ktb_7 (i := 71) rfl) rfl
theorem kwm_1232 : Cond.instanceMethod ⟨"ChalkWars", "forget", "()I"⟩ ∈ kw := kw_of (ktb_4 (i := 123) rfl) rfl
theorem kwm_1233 : Cond.selects "ChalkWars" ⟨"ChalkWars", "forget", "()I"⟩ ⟨"ChalkWars", "forget", "()I"⟩ ∈ kw := kw_of (ktb_4 (i := 124) rfl) rfl
theorem kwm_1234 : Cond.methodLink "ChalkWarsLaw" 125 ⟨"ChalkWars", "forget", "()I"⟩ ∈ kw := kw_of (ktb_4 (i := 122) rfl) rfl
theorem kwm_1235 : Cond.code ⟨"ChalkWars", "forget", "()I"⟩ prog_1_method_46_code 2 (some .int) ∈ kw := kw_of (ktb_4 (i := 125) rfl) rfl
theorem kwm_1236 : Cond.instanceMethod ⟨"ChalkWarsModel", "forget", "()I"⟩ ∈ kw := kw_of (ktb_7 (i := 73) rfl) rfl
theorem kwm_1237 : Cond.selects "ChalkWarsModel" ⟨"ChalkWarsModel", "forget", "()I"⟩ ⟨"ChalkWarsModel", "forget", "()I"⟩ ∈ kw := kw_of (ktb_7 (i := 74) rfl) rfl
theorem kwm_1238 : Cond.methodLink "ChalkWarsLaw" 128 ⟨"ChalkWarsModel", "forget", "()I"⟩ ∈ kw := kw_of (ktb_7 (i := 72) rfl) rfl
theorem kwm_1239 : Cond.code ⟨"ChalkWarsModel", "forget", "()I"⟩ prog_14_method_82_code 1 (some .int) ∈ kw := kw_of (ktb_7 (i := 75) rfl) rfl
theorem kwm_1240 : Cond.instanceMethod ⟨"ChalkWars", "span", "(I)I"⟩ ∈ kw := kw_of (ktb_4 (i := 127) rfl) rfl
theorem kwm_1241 : Cond.selects "ChalkWars" ⟨"ChalkWars", "span", "(I)I"⟩ ⟨"ChalkWars", "span", "(I)I"⟩ ∈ kw := kw_of (ktb_4 (i := 128) rfl) rfl
theorem kwm_1242 : Cond.methodLink "ChalkWarsLaw" 129 ⟨"ChalkWars", "span", "(I)I"⟩ ∈ kw := kw_of (ktb_4 (i := 126) rfl) rfl
theorem kwm_1243 : Cond.code ⟨"ChalkWars", "span", "(I)I"⟩ prog_1_method_47_code 5 (some .int) ∈ kw := kw_of (ktb_4 (i := 129) rfl) rfl
theorem kwm_1244 : Cond.instanceMethod ⟨"ChalkWarsModel", "span", "(I)I"⟩ ∈ kw := kw_of (ktb_7 (i := 77) rfl) rfl
theorem kwm_1245 : Cond.selects "ChalkWarsModel" ⟨"ChalkWarsModel", "span", "(I)I"⟩ ⟨"ChalkWarsModel", "span", "(I)I"⟩ ∈ kw := kw_of (ktb_7 (i := 78) rfl) rfl
theorem kwm_1246 : Cond.methodLink "ChalkWarsLaw" 132 ⟨"ChalkWarsModel", "span", "(I)I"⟩ ∈ kw := kw_of (ktb_7 (i := 76) rfl) rfl
theorem kwm_1247 : Cond.code ⟨"ChalkWarsModel", "span", "(I)I"⟩ prog_14_method_85_code 4 (some .int) ∈ kw := kw_of (ktb_7 (i := 79) rfl) rfl
theorem kwm_1248 : Cond.instanceMethod ⟨"ChalkWars", "liar", "()I"⟩ ∈ kw := kw_of (ktb_4 (i := 145) rfl) rfl
theorem kwm_1249 : Cond.selects "ChalkWars" ⟨"ChalkWars", "liar", "()I"⟩ ⟨"ChalkWars", "liar", "()I"⟩ ∈ kw := kw_of (ktb_4 (i := 146) rfl) rfl
theorem kwm_1250 : Cond.methodLink "ChalkWarsLaw" 133 ⟨"ChalkWars", "liar", "()I"⟩ ∈ kw := kw_of (ktb_4 (i := 144) rfl) rfl
theorem kwm_1251 : Cond.code ⟨"ChalkWars", "liar", "()I"⟩ prog_1_method_48_code 4 (some .int) ∈ kw := kw_of (ktb_4 (i := 147) rfl) rfl
theorem kwm_1252 : Cond.instanceMethod ⟨"ChalkWarsModel", "liar", "()I"⟩ ∈ kw := kw_of (ktb_7 (i := 89) rfl) rfl
theorem kwm_1253 : Cond.selects "ChalkWarsModel" ⟨"ChalkWarsModel", "liar", "()I"⟩ ⟨"ChalkWarsModel", "liar", "()I"⟩ ∈ kw := kw_of (ktb_7 (i := 90) rfl) rfl
theorem kwm_1254 : Cond.methodLink "ChalkWarsLaw" 136 ⟨"ChalkWarsModel", "liar", "()I"⟩ ∈ kw := kw_of (ktb_7 (i := 88) rfl) rfl
theorem kwm_1255 : Cond.code ⟨"ChalkWarsModel", "liar", "()I"⟩ prog_14_method_86_code 2 (some .int) ∈ kw := kw_of (ktb_7 (i := 91) rfl) rfl
theorem kwm_1256 : Cond.instanceMethod ⟨"ChalkWars", "seed", "(I)I"⟩ ∈ kw := kw_of (ktb_4 (i := 149) rfl) rfl
theorem kwm_1257 : Cond.selects "ChalkWars" ⟨"ChalkWars", "seed", "(I)I"⟩ ⟨"ChalkWars", "seed", "(I)I"⟩ ∈ kw := kw_of (ktb_4 (i := 150) rfl) rfl
theorem kwm_1258 : Cond.methodLink "ChalkWarsLaw" 137 ⟨"ChalkWars", "seed", "(I)I"⟩ ∈ kw := kw_of (ktb_4 (i := 148) rfl) rfl
theorem kwm_1259 : Cond.code ⟨"ChalkWars", "seed", "(I)I"⟩ prog_1_method_53_code 3 (some .int) ∈ kw := kw_of (ktb_4 (i := 151) rfl) rfl
theorem kwm_1260 : Cond.instanceMethod ⟨"ChalkWarsModel", "seed", "(I)I"⟩ ∈ kw := kw_of (ktb_7 (i := 93) rfl) rfl
theorem kwm_1261 : Cond.selects "ChalkWarsModel" ⟨"ChalkWarsModel", "seed", "(I)I"⟩ ⟨"ChalkWarsModel", "seed", "(I)I"⟩ ∈ kw := kw_of (ktb_7 (i := 94) rfl) rfl
theorem kwm_1262 : Cond.methodLink "ChalkWarsLaw" 140 ⟨"ChalkWarsModel", "seed", "(I)I"⟩ ∈ kw := kw_of (ktb_7 (i := 92) rfl) rfl
theorem kwm_1263 : Cond.code ⟨"ChalkWarsModel", "seed", "(I)I"⟩ prog_14_method_87_code 2 (some .int) ∈ kw := kw_of (ktb_7 (i := 95) rfl) rfl
theorem kwm_1264 : Cond.instanceMethod ⟨"ChalkWars", "lot", "()I"⟩ ∈ kw := kw_of (ktb_4 (i := 153) rfl) rfl
theorem kwm_1265 : Cond.selects "ChalkWars" ⟨"ChalkWars", "lot", "()I"⟩ ⟨"ChalkWars", "lot", "()I"⟩ ∈ kw := kw_of (ktb_4 (i := 154) rfl) rfl
theorem kwm_1266 : Cond.methodLink "ChalkWarsLaw" 141 ⟨"ChalkWars", "lot", "()I"⟩ ∈ kw := kw_of (ktb_4 (i := 152) rfl) rfl
theorem kwm_1267 : Cond.code ⟨"ChalkWars", "lot", "()I"⟩ prog_1_method_54_code 1 (some .int) ∈ kw := kw_of (ktb_4 (i := 155) rfl) rfl
theorem kwm_1268 : Cond.instanceMethod ⟨"ChalkWarsModel", "lot", "()I"⟩ ∈ kw := kw_of (ktb_7 (i := 97) rfl) rfl
theorem kwm_1269 : Cond.selects "ChalkWarsModel" ⟨"ChalkWarsModel", "lot", "()I"⟩ ⟨"ChalkWarsModel", "lot", "()I"⟩ ∈ kw := kw_of (ktb_7 (i := 98) rfl) rfl
theorem kwm_1270 : Cond.methodLink "ChalkWarsLaw" 144 ⟨"ChalkWarsModel", "lot", "()I"⟩ ∈ kw := kw_of (ktb_7 (i := 96) rfl) rfl
theorem kwm_1271 : Cond.code ⟨"ChalkWarsModel", "lot", "()I"⟩ prog_14_method_89_code 1 (some .int) ∈ kw := kw_of (ktb_7 (i := 99) rfl) rfl
theorem kwm_1272 : Cond.instanceMethod ⟨"ChalkWars", "times", "(II)I"⟩ ∈ kw := kw_of (ktb_4 (i := 162) rfl) rfl
theorem kwm_1273 : Cond.selects "ChalkWars" ⟨"ChalkWars", "times", "(II)I"⟩ ⟨"ChalkWars", "times", "(II)I"⟩ ∈ kw := kw_of (ktb_4 (i := 163) rfl) rfl
theorem kwm_1274 : Cond.methodLink "ChalkWarsLaw" 145 ⟨"ChalkWars", "times", "(II)I"⟩ ∈ kw := kw_of (ktb_4 (i := 161) rfl) rfl
theorem kwm_1275 : Cond.code ⟨"ChalkWars", "times", "(II)I"⟩ prog_1_method_55_code 6 (some .int) ∈ kw := kw_of (ktb_4 (i := 164) rfl) rfl
theorem kwm_1276 : Cond.instanceMethod ⟨"ChalkWarsModel", "times", "(II)I"⟩ ∈ kw := kw_of (ktb_7 (i := 106) rfl) rfl
theorem kwm_1277 : Cond.selects "ChalkWarsModel" ⟨"ChalkWarsModel", "times", "(II)I"⟩ ⟨"ChalkWarsModel", "times", "(II)I"⟩ ∈ kw := kw_of (ktb_7 (i := 107) rfl) rfl
theorem kwm_1278 : Cond.methodLink "ChalkWarsLaw" 148 ⟨"ChalkWarsModel", "times", "(II)I"⟩ ∈ kw := kw_of (ktb_7 (i := 105) rfl) rfl
theorem kwm_1279 : Cond.code ⟨"ChalkWarsModel", "times", "(II)I"⟩ prog_14_method_90_code 7 (some .int) ∈ kw := kw_of (ktb_7 (i := 108) rfl) rfl
theorem kwm_1280 : Cond.instanceMethod ⟨"ChalkWars", "prove", "(I)I"⟩ ∈ kw := kw_of (ktb_4 (i := 171) rfl) rfl
theorem kwm_1281 : Cond.selects "ChalkWars" ⟨"ChalkWars", "prove", "(I)I"⟩ ⟨"ChalkWars", "prove", "(I)I"⟩ ∈ kw := kw_of (ktb_4 (i := 172) rfl) rfl
theorem kwm_1282 : Cond.methodLink "ChalkWarsLaw" 149 ⟨"ChalkWars", "prove", "(I)I"⟩ ∈ kw := kw_of (ktb_4 (i := 170) rfl) rfl
theorem kwm_1283 : Cond.code ⟨"ChalkWars", "prove", "(I)I"⟩ prog_1_method_56_code 4 (some .int) ∈ kw := kw_of (ktb_4 (i := 173) rfl) rfl
theorem kwm_1284 : Cond.instanceMethod ⟨"ChalkWarsModel", "prove", "(I)I"⟩ ∈ kw := kw_of (ktb_7 (i := 110) rfl) rfl
theorem kwm_1285 : Cond.selects "ChalkWarsModel" ⟨"ChalkWarsModel", "prove", "(I)I"⟩ ⟨"ChalkWarsModel", "prove", "(I)I"⟩ ∈ kw := kw_of (ktb_7 (i := 111) rfl) rfl
theorem kwm_1286 : Cond.methodLink "ChalkWarsLaw" 152 ⟨"ChalkWarsModel", "prove", "(I)I"⟩ ∈ kw := kw_of (ktb_7 (i := 109) rfl) rfl
theorem kwm_1287 : Cond.code ⟨"ChalkWarsModel", "prove", "(I)I"⟩ prog_14_method_91_code 4 (some .int) ∈ kw := kw_of (ktb_7 (i := 112) rfl) rfl
theorem kwm_1288 : Cond.instanceMethod ⟨"ChalkWars", "row", "(II)I"⟩ ∈ kw := kw_of (ktb_4 (i := 175) rfl) rfl
theorem kwm_1289 : Cond.selects "ChalkWars" ⟨"ChalkWars", "row", "(II)I"⟩ ⟨"ChalkWars", "row", "(II)I"⟩ ∈ kw := kw_of (ktb_4 (i := 176) rfl) rfl
theorem kwm_1290 : Cond.methodLink "ChalkWarsLaw" 153 ⟨"ChalkWars", "row", "(II)I"⟩ ∈ kw := kw_of (ktb_4 (i := 174) rfl) rfl
theorem kwm_1291 : Cond.code ⟨"ChalkWars", "row", "(II)I"⟩ prog_1_method_57_code 3 (some .int) ∈ kw := kw_of (ktb_4 (i := 177) rfl) rfl
theorem kwm_1292 : Cond.instanceMethod ⟨"ChalkWarsModel", "row", "(II)I"⟩ ∈ kw := kw_of (ktb_7 (i := 114) rfl) rfl
theorem kwm_1293 : Cond.selects "ChalkWarsModel" ⟨"ChalkWarsModel", "row", "(II)I"⟩ ⟨"ChalkWarsModel", "row", "(II)I"⟩ ∈ kw := kw_of (ktb_7 (i := 115) rfl) rfl
theorem kwm_1294 : Cond.methodLink "ChalkWarsLaw" 156 ⟨"ChalkWarsModel", "row", "(II)I"⟩ ∈ kw := kw_of (ktb_7 (i := 113) rfl) rfl
theorem kwm_1295 : Cond.code ⟨"ChalkWarsModel", "row", "(II)I"⟩ prog_14_method_93_code 3 (some .int) ∈ kw := kw_of (ktb_7 (i := 116) rfl) rfl
theorem kwm_1296 : Cond.instanceMethod ⟨"ChalkWars", "alterRow", "(III)I"⟩ ∈ kw := kw_of (ktb_4 (i := 183) rfl) rfl
theorem kwm_1297 : Cond.selects "ChalkWars" ⟨"ChalkWars", "alterRow", "(III)I"⟩ ⟨"ChalkWars", "alterRow", "(III)I"⟩ ∈ kw := kw_of (ktb_4 (i := 184) rfl) rfl
theorem kwm_1298 : Cond.methodLink "ChalkWarsLaw" 157 ⟨"ChalkWars", "alterRow", "(III)I"⟩ ∈ kw := kw_of (ktb_4 (i := 182) rfl) rfl
theorem kwm_1299 : Cond.code ⟨"ChalkWars", "alterRow", "(III)I"⟩ prog_1_method_58_code 5 (some .int) ∈ kw := kw_of (ktb_4 (i := 185) rfl) rfl
theorem kwm_1300 : Cond.instanceMethod ⟨"ChalkWarsModel", "alterRow", "(III)I"⟩ ∈ kw := kw_of (ktb_7 (i := 122) rfl) rfl
theorem kwm_1301 : Cond.selects "ChalkWarsModel" ⟨"ChalkWarsModel", "alterRow", "(III)I"⟩ ⟨"ChalkWarsModel", "alterRow", "(III)I"⟩ ∈ kw := kw_of (ktb_7 (i := 123) rfl) rfl
theorem kwm_1302 : Cond.methodLink "ChalkWarsLaw" 160 ⟨"ChalkWarsModel", "alterRow", "(III)I"⟩ ∈ kw := kw_of (ktb_7 (i := 121) rfl) rfl
theorem kwm_1303 : Cond.code ⟨"ChalkWarsModel", "alterRow", "(III)I"⟩ prog_14_method_94_code 5 (some .int) ∈ kw := kw_of (ktb_7 (i := 124) rfl) rfl
theorem kwm_1304 : Cond.instanceMethod ⟨"ChalkWars", "judge", "()I"⟩ ∈ kw := kw_of (ktb_4 (i := 187) rfl) rfl
theorem kwm_1305 : Cond.selects "ChalkWars" ⟨"ChalkWars", "judge", "()I"⟩ ⟨"ChalkWars", "judge", "()I"⟩ ∈ kw := kw_of (ktb_4 (i := 188) rfl) rfl
theorem kwm_1306 : Cond.methodLink "ChalkWarsLaw" 161 ⟨"ChalkWars", "judge", "()I"⟩ ∈ kw := kw_of (ktb_4 (i := 186) rfl) rfl
theorem kwm_1307 : Cond.code ⟨"ChalkWars", "judge", "()I"⟩ prog_1_method_60_code 2 (some .int) ∈ kw := kw_of (ktb_4 (i := 189) rfl) rfl
theorem kwm_1308 : Cond.instanceMethod ⟨"ChalkWarsModel", "judge", "()I"⟩ ∈ kw := kw_of (ktb_7 (i := 126) rfl) rfl
theorem kwm_1309 : Cond.selects "ChalkWarsModel" ⟨"ChalkWarsModel", "judge", "()I"⟩ ⟨"ChalkWarsModel", "judge", "()I"⟩ ∈ kw := kw_of (ktb_7 (i := 127) rfl) rfl
theorem kwm_1310 : Cond.methodLink "ChalkWarsLaw" 164 ⟨"ChalkWarsModel", "judge", "()I"⟩ ∈ kw := kw_of (ktb_7 (i := 125) rfl) rfl
theorem kwm_1311 : Cond.code ⟨"ChalkWarsModel", "judge", "()I"⟩ prog_14_method_95_code 5 (some .int) ∈ kw := kw_of (ktb_7 (i := 128) rfl) rfl
theorem kwm_1312 : Cond.instanceMethod ⟨"ChalkWars", "sheet", "(III)I"⟩ ∈ kw := kw_of (ktb_4 (i := 199) rfl) rfl
theorem kwm_1313 : Cond.selects "ChalkWars" ⟨"ChalkWars", "sheet", "(III)I"⟩ ⟨"ChalkWars", "sheet", "(III)I"⟩ ∈ kw := kw_of (ktb_4 (i := 200) rfl) rfl
theorem kwm_1314 : Cond.methodLink "ChalkWarsLaw" 165 ⟨"ChalkWars", "sheet", "(III)I"⟩ ∈ kw := kw_of (ktb_4 (i := 198) rfl) rfl
theorem kwm_1315 : Cond.code ⟨"ChalkWars", "sheet", "(III)I"⟩ prog_1_method_62_code 5 (some .int) ∈ kw := kw_of (ktb_4 (i := 201) rfl) rfl
theorem kwm_1316 : Cond.instanceMethod ⟨"ChalkWarsModel", "sheet", "(III)I"⟩ ∈ kw := kw_of (ktb_7 (i := 130) rfl) rfl
theorem kwm_1317 : Cond.selects "ChalkWarsModel" ⟨"ChalkWarsModel", "sheet", "(III)I"⟩ ⟨"ChalkWarsModel", "sheet", "(III)I"⟩ ∈ kw := kw_of (ktb_7 (i := 131) rfl) rfl
theorem kwm_1318 : Cond.methodLink "ChalkWarsLaw" 168 ⟨"ChalkWarsModel", "sheet", "(III)I"⟩ ∈ kw := kw_of (ktb_7 (i := 129) rfl) rfl
theorem kwm_1319 : Cond.code ⟨"ChalkWarsModel", "sheet", "(III)I"⟩ prog_14_method_96_code 5 (some .int) ∈ kw := kw_of (ktb_7 (i := 132) rfl) rfl
theorem kwm_1320 : Cond.instanceMethod ⟨"ChalkWars", "write", "(III)I"⟩ ∈ kw := kw_of (ktb_4 (i := 206) rfl) rfl
theorem kwm_1321 : Cond.selects "ChalkWars" ⟨"ChalkWars", "write", "(III)I"⟩ ⟨"ChalkWars", "write", "(III)I"⟩ ∈ kw := kw_of (ktb_4 (i := 207) rfl) rfl
theorem kwm_1322 : Cond.methodLink "ChalkWarsLaw" 169 ⟨"ChalkWars", "write", "(III)I"⟩ ∈ kw := kw_of (ktb_4 (i := 205) rfl) rfl
theorem kwm_1323 : Cond.code ⟨"ChalkWars", "write", "(III)I"⟩ prog_1_method_63_code 4 (some .int) ∈ kw := kw_of (ktb_4 (i := 208) rfl) rfl
theorem kwm_1324 : Cond.instanceMethod ⟨"ChalkWarsModel", "write", "(III)I"⟩ ∈ kw := kw_of (ktb_7 (i := 134) rfl) rfl
theorem kwm_1325 : Cond.selects "ChalkWarsModel" ⟨"ChalkWarsModel", "write", "(III)I"⟩ ⟨"ChalkWarsModel", "write", "(III)I"⟩ ∈ kw := kw_of (ktb_7 (i := 135) rfl) rfl
theorem kwm_1326 : Cond.methodLink "ChalkWarsLaw" 172 ⟨"ChalkWarsModel", "write", "(III)I"⟩ ∈ kw := kw_of (ktb_7 (i := 133) rfl) rfl
theorem kwm_1327 : Cond.code ⟨"ChalkWarsModel", "write", "(III)I"⟩ prog_14_method_97_code 5 (some .int) ∈ kw := kw_of (ktb_7 (i := 136) rfl) rfl
theorem kwm_1328 : Cond.instanceMethod ⟨"ChalkWars", "item", "(III)I"⟩ ∈ kw := kw_of (ktb_4 (i := 217) rfl) rfl
theorem kwm_1329 : Cond.selects "ChalkWars" ⟨"ChalkWars", "item", "(III)I"⟩ ⟨"ChalkWars", "item", "(III)I"⟩ ∈ kw := kw_of (ktb_4 (i := 218) rfl) rfl
theorem kwm_1330 : Cond.methodLink "ChalkWarsLaw" 173 ⟨"ChalkWars", "item", "(III)I"⟩ ∈ kw := kw_of (ktb_4 (i := 216) rfl) rfl
theorem kwm_1331 : Cond.code ⟨"ChalkWars", "item", "(III)I"⟩ prog_1_method_65_code 5 (some .int) ∈ kw := kw_of (ktb_4 (i := 219) rfl) rfl
theorem kwm_1332 : Cond.instanceMethod ⟨"ChalkWarsModel", "item", "(III)I"⟩ ∈ kw := kw_of (ktb_7 (i := 138) rfl) rfl
theorem kwm_1333 : Cond.selects "ChalkWarsModel" ⟨"ChalkWarsModel", "item", "(III)I"⟩ ⟨"ChalkWarsModel", "item", "(III)I"⟩ ∈ kw := kw_of (ktb_7 (i := 139) rfl) rfl
theorem kwm_1334 : Cond.methodLink "ChalkWarsLaw" 176 ⟨"ChalkWarsModel", "item", "(III)I"⟩ ∈ kw := kw_of (ktb_7 (i := 137) rfl) rfl
theorem kwm_1335 : Cond.code ⟨"ChalkWarsModel", "item", "(III)I"⟩ prog_14_method_98_code 4 (some .int) ∈ kw := kw_of (ktb_7 (i := 140) rfl) rfl
theorem kwm_1336 : Cond.instanceMethod ⟨"ChalkWars", "goAll", "(III)I"⟩ ∈ kw := kw_of (ktb_4 (i := 225) rfl) rfl
theorem kwm_1337 : Cond.selects "ChalkWars" ⟨"ChalkWars", "goAll", "(III)I"⟩ ⟨"ChalkWars", "goAll", "(III)I"⟩ ∈ kw := kw_of (ktb_4 (i := 226) rfl) rfl
theorem kwm_1338 : Cond.methodLink "ChalkWarsLaw" 177 ⟨"ChalkWars", "goAll", "(III)I"⟩ ∈ kw := kw_of (ktb_4 (i := 224) rfl) rfl
theorem kwm_1339 : Cond.code ⟨"ChalkWars", "goAll", "(III)I"⟩ prog_1_method_66_code 8 (some .int) ∈ kw := kw_of (ktb_4 (i := 227) rfl) rfl
theorem kwm_1340 : Cond.instanceMethod ⟨"ChalkWarsModel", "goAll", "(III)I"⟩ ∈ kw := kw_of (ktb_7 (i := 142) rfl) rfl
theorem kwm_1341 : Cond.selects "ChalkWarsModel" ⟨"ChalkWarsModel", "goAll", "(III)I"⟩ ⟨"ChalkWarsModel", "goAll", "(III)I"⟩ ∈ kw := kw_of (ktb_7 (i := 143) rfl) rfl
theorem kwm_1342 : Cond.methodLink "ChalkWarsLaw" 180 ⟨"ChalkWarsModel", "goAll", "(III)I"⟩ ∈ kw := kw_of (ktb_7 (i := 141) rfl) rfl
theorem kwm_1343 : Cond.code ⟨"ChalkWarsModel", "goAll", "(III)I"⟩ prog_14_method_101_code 8 (some .int) ∈ kw := kw_of (ktb_7 (i := 144) rfl) rfl
theorem kwm_1344 : Cond.instanceMethod ⟨"ChalkWars", "wouldBe", "(III)I"⟩ ∈ kw := kw_of (ktb_4 (i := 229) rfl) rfl
theorem kwm_1345 : Cond.selects "ChalkWars" ⟨"ChalkWars", "wouldBe", "(III)I"⟩ ⟨"ChalkWars", "wouldBe", "(III)I"⟩ ∈ kw := kw_of (ktb_4 (i := 230) rfl) rfl
theorem kwm_1346 : Cond.methodLink "ChalkWarsLaw" 181 ⟨"ChalkWars", "wouldBe", "(III)I"⟩ ∈ kw := kw_of (ktb_4 (i := 228) rfl) rfl
theorem kwm_1347 : Cond.code ⟨"ChalkWars", "wouldBe", "(III)I"⟩ prog_1_method_67_code 8 (some .int) ∈ kw := kw_of (ktb_4 (i := 231) rfl) rfl
theorem kwm_1348 : Cond.instanceMethod ⟨"ChalkWarsModel", "wouldBe", "(III)I"⟩ ∈ kw := kw_of (ktb_7 (i := 154) rfl) rfl
theorem kwm_1349 : Cond.selects "ChalkWarsModel" ⟨"ChalkWarsModel", "wouldBe", "(III)I"⟩ ⟨"ChalkWarsModel", "wouldBe", "(III)I"⟩ ∈ kw := kw_of (ktb_7 (i := 155) rfl) rfl
theorem kwm_1350 : Cond.methodLink "ChalkWarsLaw" 184 ⟨"ChalkWarsModel", "wouldBe", "(III)I"⟩ ∈ kw := kw_of (ktb_7 (i := 153) rfl) rfl
theorem kwm_1351 : Cond.code ⟨"ChalkWarsModel", "wouldBe", "(III)I"⟩ prog_14_method_102_code 9 (some .int) ∈ kw := kw_of (ktb_7 (i := 156) rfl) rfl
theorem kwm_1352 : Cond.instanceMethod ⟨"ChalkWars", "shelf", "(III)I"⟩ ∈ kw := kw_of (ktb_4 (i := 233) rfl) rfl
theorem kwm_1353 : Cond.selects "ChalkWars" ⟨"ChalkWars", "shelf", "(III)I"⟩ ⟨"ChalkWars", "shelf", "(III)I"⟩ ∈ kw := kw_of (ktb_4 (i := 234) rfl) rfl
theorem kwm_1354 : Cond.methodLink "ChalkWarsLaw" 185 ⟨"ChalkWars", "shelf", "(III)I"⟩ ∈ kw := kw_of (ktb_4 (i := 232) rfl) rfl
theorem kwm_1355 : Cond.code ⟨"ChalkWars", "shelf", "(III)I"⟩ prog_1_method_71_code 4 (some .int) ∈ kw := kw_of (ktb_4 (i := 235) rfl) rfl
theorem kwm_1356 : Cond.instanceMethod ⟨"ChalkWarsModel", "shelf", "(III)I"⟩ ∈ kw := kw_of (ktb_7 (i := 158) rfl) rfl
theorem kwm_1357 : Cond.selects "ChalkWarsModel" ⟨"ChalkWarsModel", "shelf", "(III)I"⟩ ⟨"ChalkWarsModel", "shelf", "(III)I"⟩ ∈ kw := kw_of (ktb_7 (i := 159) rfl) rfl
theorem kwm_1358 : Cond.methodLink "ChalkWarsLaw" 188 ⟨"ChalkWarsModel", "shelf", "(III)I"⟩ ∈ kw := kw_of (ktb_7 (i := 157) rfl) rfl
theorem kwm_1359 : Cond.code ⟨"ChalkWarsModel", "shelf", "(III)I"⟩ prog_14_method_103_code 5 (some .int) ∈ kw := kw_of (ktb_7 (i := 160) rfl) rfl
theorem kwm_1360 : Cond.instanceMethod ⟨"ChalkWars", "taken", "(II)I"⟩ ∈ kw := kw_of (ktb_5 (i := 8) rfl) rfl
theorem kwm_1361 : Cond.selects "ChalkWars" ⟨"ChalkWars", "taken", "(II)I"⟩ ⟨"ChalkWars", "taken", "(II)I"⟩ ∈ kw := kw_of (ktb_5 (i := 9) rfl) rfl
theorem kwm_1362 : Cond.methodLink "ChalkWarsLaw" 189 ⟨"ChalkWars", "taken", "(II)I"⟩ ∈ kw := kw_of (ktb_5 (i := 7) rfl) rfl
theorem kwm_1363 : Cond.code ⟨"ChalkWars", "taken", "(II)I"⟩ prog_1_method_74_code 6 (some .int) ∈ kw := kw_of (ktb_5 (i := 10) rfl) rfl
theorem kwm_1364 : Cond.instanceMethod ⟨"ChalkWarsModel", "taken", "(II)I"⟩ ∈ kw := kw_of (ktb_7 (i := 162) rfl) rfl
theorem kwm_1365 : Cond.selects "ChalkWarsModel" ⟨"ChalkWarsModel", "taken", "(II)I"⟩ ⟨"ChalkWarsModel", "taken", "(II)I"⟩ ∈ kw := kw_of (ktb_7 (i := 163) rfl) rfl
theorem kwm_1366 : Cond.methodLink "ChalkWarsLaw" 192 ⟨"ChalkWarsModel", "taken", "(II)I"⟩ ∈ kw := kw_of (ktb_7 (i := 161) rfl) rfl
theorem kwm_1367 : Cond.code ⟨"ChalkWarsModel", "taken", "(II)I"⟩ prog_14_method_105_code 3 (some .int) ∈ kw := kw_of (ktb_7 (i := 164) rfl) rfl
theorem kwm_1368 : Cond.instanceMethod ⟨"ChalkWars", "act", "(III)I"⟩ ∈ kw := kw_of (ktb_5 (i := 17) rfl) rfl
theorem kwm_1369 : Cond.selects "ChalkWars" ⟨"ChalkWars", "act", "(III)I"⟩ ⟨"ChalkWars", "act", "(III)I"⟩ ∈ kw := kw_of (ktb_5 (i := 18) rfl) rfl
theorem kwm_1370 : Cond.methodLink "ChalkWarsLaw" 193 ⟨"ChalkWars", "act", "(III)I"⟩ ∈ kw := kw_of (ktb_5 (i := 16) rfl) rfl
theorem kwm_1371 : Cond.code ⟨"ChalkWars", "act", "(III)I"⟩ prog_1_method_75_code 7 (some .int) ∈ kw := kw_of (ktb_5 (i := 19) rfl) rfl
theorem kwm_1372 : Cond.instanceMethod ⟨"ChalkWarsModel", "act", "(III)I"⟩ ∈ kw := kw_of (ktb_7 (i := 170) rfl) rfl
theorem kwm_1373 : Cond.selects "ChalkWarsModel" ⟨"ChalkWarsModel", "act", "(III)I"⟩ ⟨"ChalkWarsModel", "act", "(III)I"⟩ ∈ kw := kw_of (ktb_7 (i := 171) rfl) rfl
theorem kwm_1374 : Cond.methodLink "ChalkWarsLaw" 196 ⟨"ChalkWarsModel", "act", "(III)I"⟩ ∈ kw := kw_of (ktb_7 (i := 169) rfl) rfl
theorem kwm_1375 : Cond.code ⟨"ChalkWarsModel", "act", "(III)I"⟩ prog_14_method_116_code 6 (some .int) ∈ kw := kw_of (ktb_7 (i := 172) rfl) rfl
theorem kwm_1376 : Cond.instanceMethod ⟨"ChalkWars", "trace", "(I)I"⟩ ∈ kw := kw_of (ktb_5 (i := 119) rfl) rfl
theorem kwm_1377 : Cond.selects "ChalkWars" ⟨"ChalkWars", "trace", "(I)I"⟩ ⟨"ChalkWars", "trace", "(I)I"⟩ ∈ kw := kw_of (ktb_5 (i := 120) rfl) rfl
theorem kwm_1378 : Cond.methodLink "ChalkWarsLaw" 197 ⟨"ChalkWars", "trace", "(I)I"⟩ ∈ kw := kw_of (ktb_5 (i := 118) rfl) rfl
theorem kwm_1379 : Cond.code ⟨"ChalkWars", "trace", "(I)I"⟩ prog_1_method_76_code 2 (some .int) ∈ kw := kw_of (ktb_5 (i := 121) rfl) rfl
theorem kwm_1380 : Cond.instanceMethod ⟨"ChalkWarsModel", "trace", "(I)I"⟩ ∈ kw := kw_of (ktb_7 (i := 214) rfl) rfl
theorem kwm_1381 : Cond.selects "ChalkWarsModel" ⟨"ChalkWarsModel", "trace", "(I)I"⟩ ⟨"ChalkWarsModel", "trace", "(I)I"⟩ ∈ kw := kw_of (ktb_7 (i := 215) rfl) rfl
theorem kwm_1382 : Cond.methodLink "ChalkWarsLaw" 200 ⟨"ChalkWarsModel", "trace", "(I)I"⟩ ∈ kw := kw_of (ktb_7 (i := 213) rfl) rfl
theorem kwm_1383 : Cond.code ⟨"ChalkWarsModel", "trace", "(I)I"⟩ prog_14_method_117_code 2 (some .int) ∈ kw := kw_of (ktb_7 (i := 216) rfl) rfl
theorem kwm_1384 : Cond.instanceMethod ⟨"ChalkWars", "many", "(I)I"⟩ ∈ kw := kw_of (ktb_5 (i := 127) rfl) rfl
theorem kwm_1385 : Cond.selects "ChalkWars" ⟨"ChalkWars", "many", "(I)I"⟩ ⟨"ChalkWars", "many", "(I)I"⟩ ∈ kw := kw_of (ktb_5 (i := 128) rfl) rfl
theorem kwm_1386 : Cond.methodLink "ChalkWarsLaw" 201 ⟨"ChalkWars", "many", "(I)I"⟩ ∈ kw := kw_of (ktb_5 (i := 126) rfl) rfl
theorem kwm_1387 : Cond.code ⟨"ChalkWars", "many", "(I)I"⟩ prog_1_method_77_code 2 (some .int) ∈ kw := kw_of (ktb_5 (i := 129) rfl) rfl
theorem kwm_1388 : Cond.instanceMethod ⟨"ChalkWarsModel", "many", "(I)I"⟩ ∈ kw := kw_of (ktb_7 (i := 218) rfl) rfl
theorem kwm_1389 : Cond.selects "ChalkWarsModel" ⟨"ChalkWarsModel", "many", "(I)I"⟩ ⟨"ChalkWarsModel", "many", "(I)I"⟩ ∈ kw := kw_of (ktb_7 (i := 219) rfl) rfl
theorem kwm_1390 : Cond.methodLink "ChalkWarsLaw" 204 ⟨"ChalkWarsModel", "many", "(I)I"⟩ ∈ kw := kw_of (ktb_7 (i := 217) rfl) rfl
theorem kwm_1391 : Cond.code ⟨"ChalkWarsModel", "many", "(I)I"⟩ prog_14_method_118_code 2 (some .int) ∈ kw := kw_of (ktb_7 (i := 220) rfl) rfl
theorem kwm_1392 : Cond.instanceMethod ⟨"ChalkWars", "keep", "()I"⟩ ∈ kw := kw_of (ktb_5 (i := 131) rfl) rfl
theorem kwm_1393 : Cond.selects "ChalkWars" ⟨"ChalkWars", "keep", "()I"⟩ ⟨"ChalkWars", "keep", "()I"⟩ ∈ kw := kw_of (ktb_5 (i := 132) rfl) rfl
theorem kwm_1394 : Cond.methodLink "ChalkWarsLaw" 205 ⟨"ChalkWars", "keep", "()I"⟩ ∈ kw := kw_of (ktb_5 (i := 130) rfl) rfl
theorem kwm_1395 : Cond.code ⟨"ChalkWars", "keep", "()I"⟩ prog_1_method_81_code 1 (some .int) ∈ kw := kw_of (ktb_5 (i := 133) rfl) rfl
theorem kwm_1396 : Cond.instanceMethod ⟨"ChalkWarsModel", "keep", "()I"⟩ ∈ kw := kw_of (ktb_7 (i := 222) rfl) rfl
theorem kwm_1397 : Cond.selects "ChalkWarsModel" ⟨"ChalkWarsModel", "keep", "()I"⟩ ⟨"ChalkWarsModel", "keep", "()I"⟩ ∈ kw := kw_of (ktb_7 (i := 223) rfl) rfl
theorem kwm_1398 : Cond.methodLink "ChalkWarsLaw" 208 ⟨"ChalkWarsModel", "keep", "()I"⟩ ∈ kw := kw_of (ktb_7 (i := 221) rfl) rfl
theorem kwm_1399 : Cond.code ⟨"ChalkWarsModel", "keep", "()I"⟩ prog_14_method_119_code 1 (some .int) ∈ kw := kw_of (ktb_7 (i := 224) rfl) rfl
theorem kwm_1400 : Cond.instanceMethod ⟨"ChalkWars", "again", "()I"⟩ ∈ kw := kw_of (ktb_5 (i := 135) rfl) rfl
theorem kwm_1401 : Cond.selects "ChalkWars" ⟨"ChalkWars", "again", "()I"⟩ ⟨"ChalkWars", "again", "()I"⟩ ∈ kw := kw_of (ktb_5 (i := 136) rfl) rfl
theorem kwm_1402 : Cond.methodLink "ChalkWarsLaw" 209 ⟨"ChalkWars", "again", "()I"⟩ ∈ kw := kw_of (ktb_5 (i := 134) rfl) rfl
theorem kwm_1403 : Cond.code ⟨"ChalkWars", "again", "()I"⟩ prog_1_method_82_code 1 (some .int) ∈ kw := kw_of (ktb_5 (i := 137) rfl) rfl
theorem kwm_1404 : Cond.instanceMethod ⟨"ChalkWarsModel", "again", "()I"⟩ ∈ kw := kw_of (ktb_7 (i := 226) rfl) rfl
theorem kwm_1405 : Cond.selects "ChalkWarsModel" ⟨"ChalkWarsModel", "again", "()I"⟩ ⟨"ChalkWarsModel", "again", "()I"⟩ ∈ kw := kw_of (ktb_7 (i := 227) rfl) rfl
theorem kwm_1406 : Cond.methodLink "ChalkWarsLaw" 212 ⟨"ChalkWarsModel", "again", "()I"⟩ ∈ kw := kw_of (ktb_7 (i := 225) rfl) rfl
theorem kwm_1407 : Cond.code ⟨"ChalkWarsModel", "again", "()I"⟩ prog_14_method_120_code 1 (some .int) ∈ kw := kw_of (ktb_7 (i := 228) rfl) rfl
theorem kwm_1408 : Cond.classLink "ChalkWars$Plans" 9 "ChalkWars$City" ∈ kw := kw_of (ktb_1 (i := 96) rfl) rfl
theorem kwm_1409 : Cond.instantiable "ChalkWars$City" 13 ∈ kw := kw_of (ktb_1 (i := 30) rfl) rfl
theorem kwm_1410 : Cond.classLink "ChalkWars" 7 "ChalkWars$City" ∈ kw := kw_of (ktb_1 (i := 29) rfl) rfl
theorem kwm_1411 : Cond.classLink "ChalkWars" 22 "ChalkWars$Plans" ∈ kw := kw_of (ktb_1 (i := 90) rfl) rfl
theorem kwm_1412 : Cond.instantiable "ChalkWars$Plans" 10 ∈ kw := kw_of (ktb_1 (i := 91) rfl) rfl
theorem kwm_1413 : Cond.classLink "ChalkWars" 29 "ChalkWars$Reader" ∈ kw := kw_of (ktb_1 (i := 137) rfl) rfl
theorem kwm_1414 : Cond.instantiable "ChalkWars$Reader" 7 ∈ kw := kw_of (ktb_1 (i := 138) rfl) rfl
theorem kwm_1415 : Cond.classLink "ChalkWars" 36 "[[I" ∈ kw := kw_of (ktb_1 (i := 167) rfl) rfl
theorem kwm_1416 : Cond.arrayClass .int ∈ kw := kw_of (ktb_1 (i := 89) rfl) rfl
theorem kwm_1417 : Cond.classLink "ChalkWars" 60 "ChalkWars$Thing" ∈ kw := kw_of (ktb_1 (i := 169) rfl) rfl
theorem kwm_1418 : Cond.classLink "ChalkWars" 66 "ChalkWars$Child" ∈ kw := kw_of (ktb_1 (i := 171) rfl) rfl
theorem kwm_1419 : Cond.instantiable "ChalkWars$Child" 5 ∈ kw := kw_of (ktb_1 (i := 172) rfl) rfl
theorem kwm_1420 : Cond.classLink "ChalkWars" 69 "ChalkWars$General" ∈ kw := kw_of (ktb_1 (i := 207) rfl) rfl
theorem kwm_1421 : Cond.instantiable "ChalkWars$General" 5 ∈ kw := kw_of (ktb_1 (i := 208) rfl) rfl
theorem kwm_1422 : Cond.classLink "ChalkWars" 72 "ChalkWars$Mother" ∈ kw := kw_of (ktb_1 (i := 219) rfl) rfl
theorem kwm_1423 : Cond.instantiable "ChalkWars$Mother" 5 ∈ kw := kw_of (ktb_1 (i := 220) rfl) rfl
theorem kwm_1424 : Cond.classLink "ChalkWars" 75 "ChalkWars$Rubber" ∈ kw := kw_of (ktb_1 (i := 231) rfl) rfl
theorem kwm_1425 : Cond.instantiable "ChalkWars$Rubber" 5 ∈ kw := kw_of (ktb_1 (i := 232) rfl) rfl
theorem kwm_1426 : Cond.classLink "ChalkWars" 78 "ChalkWars$Dog" ∈ kw := kw_of (ktb_2 (i := 3) rfl) rfl
theorem kwm_1427 : Cond.instantiable "ChalkWars$Dog" 5 ∈ kw := kw_of (ktb_2 (i := 4) rfl) rfl
theorem kwm_1428 : Cond.classLink "ChalkWars" 195 "ChalkWars$Rules" ∈ kw := kw_of (ktb_2 (i := 231) rfl) rfl
theorem kwm_1429 : Cond.instantiable "ChalkWars$Rules" 6 ∈ kw := kw_of (ktb_2 (i := 131) rfl) rfl
theorem kwm_1430 : Cond.classLink "ChalkWars" 295 "ChalkWars$Report" ∈ kw := kw_of (ktb_4 (i := 94) rfl) rfl
theorem kwm_1431 : Cond.instantiable "ChalkWars$Report" 5 ∈ kw := kw_of (ktb_4 (i := 95) rfl) rfl
theorem kwm_1432 : Cond.classLink "ChalkWarsLaw" 7 "ChalkWars" ∈ kw := kw_of (ktb_1 (i := 21) rfl) rfl
theorem kwm_1433 : Cond.instantiable "ChalkWars" 16 ∈ kw := kw_of (ktb_1 (i := 22) rfl) rfl
theorem kwm_1434 : Cond.classLink "ChalkWarsLaw" 10 "ChalkWarsModel" ∈ kw := kw_of (ktb_5 (i := 138) rfl) rfl
theorem kwm_1435 : Cond.instantiable "ChalkWarsModel" 31 ∈ kw := kw_of (ktb_5 (i := 139) rfl) rfl
theorem kwm_1436 : Cond.fieldLink "ChalkWarsModel" 134 "ChalkWarsModel" "NAMES" "[I" ∈ kw := kw_of (ktb_6 (i := 148) rfl) rfl
theorem kwm_1437 : Cond.fieldLink "java/lang/String" 38 "java/lang/String" "COMPACT_STRINGS" "Z" ∈ kw := kw_of (ktb_3 (i := 52) rfl) rfl
theorem kwm_1438 : Cond.arrayClass .byte ∈ kw := kw_of (ktb_1 (i := 166) rfl) rfl
theorem kwm_1439 : Cond.arrayClass .boolean ∈ kw := kw_of (ktb_5 (i := 238) rfl) rfl
theorem kwm_1440 : Cond.arrayClass .long ∈ kw := kw_of (ktb_5 (i := 239) rfl) rfl
theorem kwm_1441 : Cond.laysFinal "ChalkWars$Child" "ChalkWars$Thing" "bodies" "[I" ∈ kw := kw_of (ktb_1 (i := 196) rfl) rfl
theorem kwm_1442 : Cond.lays "ChalkWars$Child" "ChalkWars$Thing" "begun" "I" ∈ kw := kw_of (ktb_1 (i := 198) rfl) rfl
theorem kwm_1443 : Cond.lays "ChalkWars$Child" "ChalkWars$Thing" "parted" "Z" ∈ kw := kw_of (ktb_1 (i := 200) rfl) rfl
theorem kwm_1444 : Cond.lays "ChalkWars$Child" "ChalkWars$Thing" "number" "I" ∈ kw := kw_of (ktb_1 (i := 202) rfl) rfl
theorem kwm_1445 : Cond.lays "ChalkWars$Child" "ChalkWars$Thing" "chalk" "I" ∈ kw := kw_of (ktb_1 (i := 204) rfl) rfl
theorem kwm_1446 : Cond.laysFinal "ChalkWars$City" "ChalkWars$City" "hands" "[I" ∈ kw := kw_of (ktb_1 (i := 62) rfl) rfl
theorem kwm_1447 : Cond.lays "ChalkWars$City" "ChalkWars$City" "count" "I" ∈ kw := kw_of (ktb_1 (i := 64) rfl) rfl
theorem kwm_1448 : Cond.lays "ChalkWars$City" "ChalkWars$City" "home" "I" ∈ kw := kw_of (ktb_1 (i := 66) rfl) rfl
theorem kwm_1449 : Cond.lays "ChalkWars$City" "ChalkWars$City" "lines" "I" ∈ kw := kw_of (ktb_1 (i := 68) rfl) rfl
theorem kwm_1450 : Cond.lays "ChalkWars$City" "ChalkWars$City" "dry" "I" ∈ kw := kw_of (ktb_1 (i := 70) rfl) rfl
theorem kwm_1451 : Cond.lays "ChalkWars$City" "ChalkWars$City" "rain" "I" ∈ kw := kw_of (ktb_1 (i := 72) rfl) rfl
theorem kwm_1452 : Cond.lays "ChalkWars$City" "ChalkWars$City" "end" "I" ∈ kw := kw_of (ktb_1 (i := 74) rfl) rfl
theorem kwm_1453 : Cond.lays "ChalkWars$City" "ChalkWars$City" "dusk" "I" ∈ kw := kw_of (ktb_1 (i := 76) rfl) rfl
theorem kwm_1454 : Cond.lays "ChalkWars$City" "ChalkWars$City" "score" "I" ∈ kw := kw_of (ktb_1 (i := 78) rfl) rfl
theorem kwm_1455 : Cond.lays "ChalkWars$City" "ChalkWars$City" "chance" "I" ∈ kw := kw_of (ktb_1 (i := 80) rfl) rfl
theorem kwm_1456 : Cond.lays "ChalkWars$City" "ChalkWars$City" "rules" "LChalkWars$Rules;" ∈ kw := kw_of (ktb_1 (i := 82) rfl) rfl
theorem kwm_1457 : Cond.lays "ChalkWars$City" "ChalkWars$City" "reports" "LChalkWars$Report;" ∈ kw := kw_of (ktb_1 (i := 84) rfl) rfl
theorem kwm_1458 : Cond.laysFinal "ChalkWars$City" "ChalkWars$City" "facts" "[I" ∈ kw := kw_of (ktb_1 (i := 86) rfl) rfl
theorem kwm_1459 : Cond.laysFinal "ChalkWars$Dog" "ChalkWars$Thing" "bodies" "[I" ∈ kw := kw_of (ktb_2 (i := 9) rfl) rfl
theorem kwm_1460 : Cond.lays "ChalkWars$Dog" "ChalkWars$Thing" "begun" "I" ∈ kw := kw_of (ktb_2 (i := 10) rfl) rfl
theorem kwm_1461 : Cond.lays "ChalkWars$Dog" "ChalkWars$Thing" "parted" "Z" ∈ kw := kw_of (ktb_2 (i := 11) rfl) rfl
theorem kwm_1462 : Cond.lays "ChalkWars$Dog" "ChalkWars$Thing" "number" "I" ∈ kw := kw_of (ktb_2 (i := 12) rfl) rfl
theorem kwm_1463 : Cond.lays "ChalkWars$Dog" "ChalkWars$Thing" "chalk" "I" ∈ kw := kw_of (ktb_2 (i := 13) rfl) rfl
theorem kwm_1464 : Cond.laysFinal "ChalkWars$General" "ChalkWars$Thing" "bodies" "[I" ∈ kw := kw_of (ktb_1 (i := 213) rfl) rfl
theorem kwm_1465 : Cond.lays "ChalkWars$General" "ChalkWars$Thing" "begun" "I" ∈ kw := kw_of (ktb_1 (i := 214) rfl) rfl
theorem kwm_1466 : Cond.lays "ChalkWars$General" "ChalkWars$Thing" "parted" "Z" ∈ kw := kw_of (ktb_1 (i := 215) rfl) rfl
theorem kwm_1467 : Cond.lays "ChalkWars$General" "ChalkWars$Thing" "number" "I" ∈ kw := kw_of (ktb_1 (i := 216) rfl) rfl
theorem kwm_1468 : Cond.lays "ChalkWars$General" "ChalkWars$Thing" "chalk" "I" ∈ kw := kw_of (ktb_1 (i := 217) rfl) rfl
theorem kwm_1469 : Cond.laysFinal "ChalkWars$Mother" "ChalkWars$Thing" "bodies" "[I" ∈ kw := kw_of (ktb_1 (i := 225) rfl) rfl
theorem kwm_1470 : Cond.lays "ChalkWars$Mother" "ChalkWars$Thing" "begun" "I" ∈ kw := kw_of (ktb_1 (i := 226) rfl) rfl
theorem kwm_1471 : Cond.lays "ChalkWars$Mother" "ChalkWars$Thing" "parted" "Z" ∈ kw := kw_of (ktb_1 (i := 227) rfl) rfl
theorem kwm_1472 : Cond.lays "ChalkWars$Mother" "ChalkWars$Thing" "number" "I" ∈ kw := kw_of (ktb_1 (i := 228) rfl) rfl
theorem kwm_1473 : Cond.lays "ChalkWars$Mother" "ChalkWars$Thing" "chalk" "I" ∈ kw := kw_of (ktb_1 (i := 229) rfl) rfl
theorem kwm_1474 : Cond.laysFinal "ChalkWars$Plans" "ChalkWars$Plans" "levels" "[LChalkWars$City;" ∈ kw := kw_of (ktb_1 (i := 116) rfl) rfl
theorem kwm_1475 : Cond.laysFinal "ChalkWars$Plans" "ChalkWars$Plans" "acts" "[I" ∈ kw := kw_of (ktb_1 (i := 118) rfl) rfl
theorem kwm_1476 : Cond.laysFinal "ChalkWars$Plans" "ChalkWars$Plans" "first" "[I" ∈ kw := kw_of (ktb_1 (i := 120) rfl) rfl
theorem kwm_1477 : Cond.lays "ChalkWars$Plans" "ChalkWars$Plans" "length" "I" ∈ kw := kw_of (ktb_1 (i := 122) rfl) rfl
theorem kwm_1478 : Cond.lays "ChalkWars$Plans" "ChalkWars$Plans" "most" "I" ∈ kw := kw_of (ktb_1 (i := 124) rfl) rfl
theorem kwm_1479 : Cond.lays "ChalkWars$Plans" "ChalkWars$Plans" "ways" "I" ∈ kw := kw_of (ktb_1 (i := 126) rfl) rfl
theorem kwm_1480 : Cond.lays "ChalkWars$Plans" "ChalkWars$Plans" "besieged" "I" ∈ kw := kw_of (ktb_1 (i := 128) rfl) rfl
theorem kwm_1481 : Cond.lays "ChalkWars$Plans" "ChalkWars$Plans" "fewest" "I" ∈ kw := kw_of (ktb_1 (i := 130) rfl) rfl
theorem kwm_1482 : Cond.lays "ChalkWars$Plans" "ChalkWars$Plans" "everShut" "I" ∈ kw := kw_of (ktb_1 (i := 132) rfl) rfl
theorem kwm_1483 : Cond.lays "ChalkWars$Plans" "ChalkWars$Plans" "opening" "I" ∈ kw := kw_of (ktb_1 (i := 134) rfl) rfl
theorem kwm_1484 : Cond.laysFinal "ChalkWars$Reader" "ChalkWars$Reader" "tape" "[B" ∈ kw := kw_of (ktb_1 (i := 151) rfl) rfl
theorem kwm_1485 : Cond.lays "ChalkWars$Reader" "ChalkWars$Reader" "fed" "I" ∈ kw := kw_of (ktb_1 (i := 153) rfl) rfl
theorem kwm_1486 : Cond.laysFinal "ChalkWars$Reader" "ChalkWars$Reader" "tokens" "[I" ∈ kw := kw_of (ktb_1 (i := 155) rfl) rfl
theorem kwm_1487 : Cond.laysFinal "ChalkWars$Reader" "ChalkWars$Reader" "starts" "[I" ∈ kw := kw_of (ktb_1 (i := 157) rfl) rfl
theorem kwm_1488 : Cond.lays "ChalkWars$Reader" "ChalkWars$Reader" "place" "I" ∈ kw := kw_of (ktb_1 (i := 159) rfl) rfl
theorem kwm_1489 : Cond.lays "ChalkWars$Reader" "ChalkWars$Reader" "ahead" "I" ∈ kw := kw_of (ktb_1 (i := 161) rfl) rfl
theorem kwm_1490 : Cond.lays "ChalkWars$Reader" "ChalkWars$Reader" "token" "I" ∈ kw := kw_of (ktb_1 (i := 163) rfl) rfl
theorem kwm_1491 : Cond.laysFinal "ChalkWars$Report" "ChalkWars$Report" "number" "I" ∈ kw := kw_of (ktb_4 (i := 111) rfl) rfl
theorem kwm_1492 : Cond.laysFinal "ChalkWars$Report" "ChalkWars$Report" "after" "I" ∈ kw := kw_of (ktb_4 (i := 113) rfl) rfl
theorem kwm_1493 : Cond.laysFinal "ChalkWars$Report" "ChalkWars$Report" "least" "I" ∈ kw := kw_of (ktb_4 (i := 115) rfl) rfl
theorem kwm_1494 : Cond.laysFinal "ChalkWars$Report" "ChalkWars$Report" "most" "I" ∈ kw := kw_of (ktb_4 (i := 117) rfl) rfl
theorem kwm_1495 : Cond.laysFinal "ChalkWars$Report" "ChalkWars$Report" "earlier" "LChalkWars$Report;" ∈ kw := kw_of (ktb_4 (i := 119) rfl) rfl
theorem kwm_1496 : Cond.laysFinal "ChalkWars$Rubber" "ChalkWars$Thing" "bodies" "[I" ∈ kw := kw_of (ktb_1 (i := 237) rfl) rfl
theorem kwm_1497 : Cond.lays "ChalkWars$Rubber" "ChalkWars$Thing" "begun" "I" ∈ kw := kw_of (ktb_1 (i := 238) rfl) rfl
theorem kwm_1498 : Cond.lays "ChalkWars$Rubber" "ChalkWars$Thing" "parted" "Z" ∈ kw := kw_of (ktb_1 (i := 239) rfl) rfl
theorem kwm_1499 : Cond.lays "ChalkWars$Rubber" "ChalkWars$Thing" "number" "I" ∈ kw := kw_of (ktb_2 (i := 0) rfl) rfl
theorem kwm_1500 : Cond.lays "ChalkWars$Rubber" "ChalkWars$Thing" "chalk" "I" ∈ kw := kw_of (ktb_2 (i := 1) rfl) rfl
theorem kwm_1501 : Cond.laysFinal "ChalkWars$Rules" "ChalkWars$Rules" "kinds" "[I" ∈ kw := kw_of (ktb_3 (i := 11) rfl) rfl
theorem kwm_1502 : Cond.laysFinal "ChalkWars$Rules" "ChalkWars$Rules" "doings" "[I" ∈ kw := kw_of (ktb_3 (i := 13) rfl) rfl
theorem kwm_1503 : Cond.laysFinal "ChalkWars$Rules" "ChalkWars$Rules" "ends" "[I" ∈ kw := kw_of (ktb_3 (i := 15) rfl) rfl
theorem kwm_1504 : Cond.laysFinal "ChalkWars$Rules" "ChalkWars$Rules" "code" "[I" ∈ kw := kw_of (ktb_3 (i := 17) rfl) rfl
theorem kwm_1505 : Cond.lays "ChalkWars$Rules" "ChalkWars$Rules" "count" "I" ∈ kw := kw_of (ktb_3 (i := 19) rfl) rfl
theorem kwm_1506 : Cond.lays "ChalkWars$Rules" "ChalkWars$Rules" "size" "I" ∈ kw := kw_of (ktb_3 (i := 21) rfl) rfl
theorem kwm_1507 : Cond.laysFinal "ChalkWars" "ChalkWars" "city" "LChalkWars$City;" ∈ kw := kw_of (ktb_2 (i := 31) rfl) rfl
theorem kwm_1508 : Cond.laysFinal "ChalkWars" "ChalkWars" "kept" "LChalkWars$City;" ∈ kw := kw_of (ktb_2 (i := 33) rfl) rfl
theorem kwm_1509 : Cond.laysFinal "ChalkWars" "ChalkWars" "trial" "LChalkWars$City;" ∈ kw := kw_of (ktb_2 (i := 35) rfl) rfl
theorem kwm_1510 : Cond.laysFinal "ChalkWars" "ChalkWars" "plans" "LChalkWars$Plans;" ∈ kw := kw_of (ktb_2 (i := 37) rfl) rfl
theorem kwm_1511 : Cond.lays "ChalkWars" "ChalkWars" "isKept" "Z" ∈ kw := kw_of (ktb_2 (i := 39) rfl) rfl
theorem kwm_1512 : Cond.laysFinal "ChalkWars" "ChalkWars" "reader" "LChalkWars$Reader;" ∈ kw := kw_of (ktb_2 (i := 41) rfl) rfl
theorem kwm_1513 : Cond.laysFinal "ChalkWars" "ChalkWars" "rows" "[[I" ∈ kw := kw_of (ktb_2 (i := 43) rfl) rfl
theorem kwm_1514 : Cond.lays "ChalkWars" "ChalkWars" "rowCount" "I" ∈ kw := kw_of (ktb_2 (i := 45) rfl) rfl
theorem kwm_1515 : Cond.laysFinal "ChalkWars" "ChalkWars" "sorts" "[I" ∈ kw := kw_of (ktb_2 (i := 47) rfl) rfl
theorem kwm_1516 : Cond.laysFinal "ChalkWars" "ChalkWars" "sizes" "[I" ∈ kw := kw_of (ktb_2 (i := 49) rfl) rfl
theorem kwm_1517 : Cond.laysFinal "ChalkWars" "ChalkWars" "items" "[[I" ∈ kw := kw_of (ktb_2 (i := 51) rfl) rfl
theorem kwm_1518 : Cond.laysFinal "ChalkWars" "ChalkWars" "shelfHolds" "[I" ∈ kw := kw_of (ktb_2 (i := 53) rfl) rfl
theorem kwm_1519 : Cond.laysFinal "ChalkWars" "ChalkWars" "shelfThing" "[I" ∈ kw := kw_of (ktb_2 (i := 55) rfl) rfl
theorem kwm_1520 : Cond.laysFinal "ChalkWars" "ChalkWars" "shelfSize" "[I" ∈ kw := kw_of (ktb_2 (i := 57) rfl) rfl
theorem kwm_1521 : Cond.laysFinal "ChalkWars" "ChalkWars" "things" "[LChalkWars$Thing;" ∈ kw := kw_of (ktb_2 (i := 59) rfl) rfl
theorem kwm_1522 : Cond.lays "ChalkWars" "ChalkWars" "latest" "LChalkWars$Thing;" ∈ kw := kw_of (ktb_2 (i := 61) rfl) rfl
theorem kwm_1523 : Cond.laysFinal "ChalkWarsModel" "ChalkWarsModel" "m" "[I" ∈ kw := kw_of (ktb_5 (i := 175) rfl) rfl
theorem kwm_1524 : Cond.laysFinal "ChalkWarsModel" "ChalkWarsModel" "kept" "[I" ∈ kw := kw_of (ktb_5 (i := 177) rfl) rfl
theorem kwm_1525 : Cond.laysFinal "ChalkWarsModel" "ChalkWarsModel" "was" "[I" ∈ kw := kw_of (ktb_5 (i := 179) rfl) rfl
theorem kwm_1526 : Cond.lays "ChalkWarsModel" "ChalkWarsModel" "isKept" "Z" ∈ kw := kw_of (ktb_5 (i := 181) rfl) rfl
theorem kwm_1527 : Cond.laysFinal "ChalkWarsModel" "ChalkWarsModel" "tape" "[I" ∈ kw := kw_of (ktb_5 (i := 183) rfl) rfl
theorem kwm_1528 : Cond.lays "ChalkWarsModel" "ChalkWarsModel" "taped" "I" ∈ kw := kw_of (ktb_5 (i := 185) rfl) rfl
theorem kwm_1529 : Cond.lays "ChalkWarsModel" "ChalkWarsModel" "token" "I" ∈ kw := kw_of (ktb_5 (i := 187) rfl) rfl
theorem kwm_1530 : Cond.lays "ChalkWarsModel" "ChalkWarsModel" "begin" "I" ∈ kw := kw_of (ktb_5 (i := 189) rfl) rfl
theorem kwm_1531 : Cond.lays "ChalkWarsModel" "ChalkWarsModel" "at" "I" ∈ kw := kw_of (ktb_5 (i := 191) rfl) rfl
theorem kwm_1532 : Cond.lays "ChalkWarsModel" "ChalkWarsModel" "value" "I" ∈ kw := kw_of (ktb_5 (i := 193) rfl) rfl
theorem kwm_1533 : Cond.lays "ChalkWarsModel" "ChalkWarsModel" "bad" "Z" ∈ kw := kw_of (ktb_5 (i := 195) rfl) rfl
theorem kwm_1534 : Cond.lays "ChalkWarsModel" "ChalkWarsModel" "opened" "I" ∈ kw := kw_of (ktb_5 (i := 197) rfl) rfl
theorem kwm_1535 : Cond.lays "ChalkWarsModel" "ChalkWarsModel" "laid" "I" ∈ kw := kw_of (ktb_5 (i := 199) rfl) rfl
theorem kwm_1536 : Cond.laysFinal "ChalkWarsModel" "ChalkWarsModel" "pile" "[Z" ∈ kw := kw_of (ktb_5 (i := 201) rfl) rfl
theorem kwm_1537 : Cond.lays "ChalkWarsModel" "ChalkWarsModel" "shutBehind" "I" ∈ kw := kw_of (ktb_5 (i := 203) rfl) rfl
theorem kwm_1538 : Cond.lays "ChalkWarsModel" "ChalkWarsModel" "bestPlan" "I" ∈ kw := kw_of (ktb_5 (i := 205) rfl) rfl
theorem kwm_1539 : Cond.lays "ChalkWarsModel" "ChalkWarsModel" "bestWorth" "I" ∈ kw := kw_of (ktb_5 (i := 207) rfl) rfl
theorem kwm_1540 : Cond.lays "ChalkWarsModel" "ChalkWarsModel" "bestMany" "I" ∈ kw := kw_of (ktb_5 (i := 209) rfl) rfl
theorem kwm_1541 : Cond.laysFinal "ChalkWarsModel" "ChalkWarsModel" "turn" "[I" ∈ kw := kw_of (ktb_5 (i := 211) rfl) rfl
theorem kwm_1542 : Cond.laysFinal "ChalkWarsModel" "ChalkWarsModel" "ahead" "[I" ∈ kw := kw_of (ktb_5 (i := 213) rfl) rfl
theorem kwm_1543 : Cond.lays "ChalkWarsModel" "ChalkWarsModel" "rows" "I" ∈ kw := kw_of (ktb_5 (i := 215) rfl) rfl
theorem kwm_1544 : Cond.laysFinal "ChalkWarsModel" "ChalkWarsModel" "row" "[I" ∈ kw := kw_of (ktb_5 (i := 217) rfl) rfl
theorem kwm_1545 : Cond.laysFinal "ChalkWarsModel" "ChalkWarsModel" "sorts" "[I" ∈ kw := kw_of (ktb_5 (i := 219) rfl) rfl
theorem kwm_1546 : Cond.laysFinal "ChalkWarsModel" "ChalkWarsModel" "sizes" "[I" ∈ kw := kw_of (ktb_5 (i := 221) rfl) rfl
theorem kwm_1547 : Cond.laysFinal "ChalkWarsModel" "ChalkWarsModel" "cells" "[J" ∈ kw := kw_of (ktb_5 (i := 223) rfl) rfl
theorem kwm_1548 : Cond.laysFinal "ChalkWarsModel" "ChalkWarsModel" "holds" "[I" ∈ kw := kw_of (ktb_5 (i := 225) rfl) rfl
theorem kwm_1549 : Cond.laysFinal "ChalkWarsModel" "ChalkWarsModel" "held" "[I" ∈ kw := kw_of (ktb_5 (i := 227) rfl) rfl
theorem kwm_1550 : Cond.laysFinal "ChalkWarsModel" "ChalkWarsModel" "heldSize" "[I" ∈ kw := kw_of (ktb_5 (i := 229) rfl) rfl
theorem kwm_1551 : Cond.laysFinal "ChalkWarsModel" "ChalkWarsModel" "trace" "[I" ∈ kw := kw_of (ktb_5 (i := 231) rfl) rfl
theorem kwm_1552 : Cond.lays "ChalkWarsModel" "ChalkWarsModel" "traced" "I" ∈ kw := kw_of (ktb_5 (i := 233) rfl) rfl
theorem kwm_1553 : Cond.lays "ChalkWarsModel" "ChalkWarsModel" "isParted" "Z" ∈ kw := kw_of (ktb_5 (i := 235) rfl) rfl
