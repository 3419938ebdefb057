/-! the shape of the whole system, once it is made: all cells; x the text that is read, y the spa that is searched, z the work that is laid -/
set_option maxRecDepth 100000 in
def Sf (x y z : Int) : Sh := [(10, 7, [1, 49, 239, 2, 4, 8, 12]), (23, 4, [15, 23, 31, 39]), (4, 10, [(-1), (-1), (-1), 3, x, (-1), (-1), (-1), (-1), (-1)]), (20, 300, []), (2, 6, [(-1), 5, z, (-1), 6, 7]), (20, 8, []), (20, 4, []), (20, 8, []), (1, 6, [(-1), y, (-1), 9, 10, 11]), (20, 12, []), (20, 12, []), (20, 8, []), (5, 2, [13, 14]), (20, 12, []), (20, 6, []), (8, 6, [(-1), (-1), 16, 17, 18, 19]), (20, 3, []), (20, 300, []), (20, 24, []), (25, 3, [20, 21, 22]), (20, 24, []), (20, 24, []), (20, 24, []), (8, 6, [(-1), (-1), 24, 25, 26, 27]), (20, 3, []), (20, 300, []), (20, 24, []), (25, 3, [28, 29, 30]), (20, 24, []), (20, 24, []), (20, 24, []), (8, 6, [(-1), (-1), 32, 33, 34, 35]), (20, 3, []), (20, 300, []), (20, 24, []), (25, 3, [36, 37, 38]), (20, 24, []), (20, 24, []), (20, 24, []), (8, 6, [(-1), (-1), 40, 41, 42, 43]), (20, 3, []), (20, 300, []), (20, 24, []), (25, 3, [44, 45, 46]), (20, 24, []), (20, 24, []), (20, 24, []), (0, 2, [48, (-1)]), (20, 64, []), (6, 21, [(-1), (-1), (-1), 50, 55, 207, 208, 209, 210, 211, 212, 213, 214, 215, 219, 223, 227, 231, 235, 1, 47]), (3, 9, [(-1), (-1), (-1), (-1), (-1), 51, 52, 53, 54]), (20, 5, []), (20, 12, []), (20, 12, []), (20, 30, []), (7, 3, [(-1), (-1), 56]), (24, 30, [57, 62, 67, 72, 77, 82, 87, 92, 97, 102, 107, 112, 117, 122, 127, 132, 137, 142, 147, 152, 157, 162, 167, 172, 177, 182, 187, 192, 197, 202]), (3, 9, [(-1), (-1), (-1), (-1), (-1), 58, 59, 60, 61]), (20, 5, []), (20, 12, []), (20, 12, []), (20, 30, []), (3, 9, [(-1), (-1), (-1), (-1), (-1), 63, 64, 65, 66]), (20, 5, []), (20, 12, []), (20, 12, []), (20, 30, []), (3, 9, [(-1), (-1), (-1), (-1), (-1), 68, 69, 70, 71]), (20, 5, []), (20, 12, []), (20, 12, []), (20, 30, []), (3, 9, [(-1), (-1), (-1), (-1), (-1), 73, 74, 75, 76]), (20, 5, []), (20, 12, []), (20, 12, []), (20, 30, []), (3, 9, [(-1), (-1), (-1), (-1), (-1), 78, 79, 80, 81]), (20, 5, []), (20, 12, []), (20, 12, []), (20, 30, []), (3, 9, [(-1), (-1), (-1), (-1), (-1), 83, 84, 85, 86]), (20, 5, []), (20, 12, []), (20, 12, []), (20, 30, []), (3, 9, [(-1), (-1), (-1), (-1), (-1), 88, 89, 90, 91]), (20, 5, []), (20, 12, []), (20, 12, []), (20, 30, []), (3, 9, [(-1), (-1), (-1), (-1), (-1), 93, 94, 95, 96]), (20, 5, []), (20, 12, []), (20, 12, []), (20, 30, []), (3, 9, [(-1), (-1), (-1), (-1), (-1), 98, 99, 100, 101]), (20, 5, []), (20, 12, []), (20, 12, []), (20, 30, []), (3, 9, [(-1), (-1), (-1), (-1), (-1), 103, 104, 105, 106]), (20, 5, []), (20, 12, []), (20, 12, []), (20, 30, []), (3, 9, [(-1), (-1), (-1), (-1), (-1), 108, 109, 110, 111]), (20, 5, []), (20, 12, []), (20, 12, []), (20, 30, []), (3, 9, [(-1), (-1), (-1), (-1), (-1), 113, 114, 115, 116]), (20, 5, []), (20, 12, []), (20, 12, []), (20, 30, []), (3, 9, [(-1), (-1), (-1), (-1), (-1), 118, 119, 120, 121]), (20, 5, []), (20, 12, []), (20, 12, []), (20, 30, []), (3, 9, [(-1), (-1), (-1), (-1), (-1), 123, 124, 125, 126]), (20, 5, []), (20, 12, []), (20, 12, []), (20, 30, []), (3, 9, [(-1), (-1), (-1), (-1), (-1), 128, 129, 130, 131]), (20, 5, []), (20, 12, []), (20, 12, []), (20, 30, []), (3, 9, [(-1), (-1), (-1), (-1), (-1), 133, 134, 135, 136]), (20, 5, []), (20, 12, []), (20, 12, []), (20, 30, []), (3, 9, [(-1), (-1), (-1), (-1), (-1), 138, 139, 140, 141]), (20, 5, []), (20, 12, []), (20, 12, []), (20, 30, []), (3, 9, [(-1), (-1), (-1), (-1), (-1), 143, 144, 145, 146]), (20, 5, []), (20, 12, []), (20, 12, []), (20, 30, []), (3, 9, [(-1), (-1), (-1), (-1), (-1), 148, 149, 150, 151]), (20, 5, []), (20, 12, []), (20, 12, []), (20, 30, []), (3, 9, [(-1), (-1), (-1), (-1), (-1), 153, 154, 155, 156]), (20, 5, []), (20, 12, []), (20, 12, []), (20, 30, []), (3, 9, [(-1), (-1), (-1), (-1), (-1), 158, 159, 160, 161]), (20, 5, []), (20, 12, []), (20, 12, []), (20, 30, []), (3, 9, [(-1), (-1), (-1), (-1), (-1), 163, 164, 165, 166]), (20, 5, []), (20, 12, []), (20, 12, []), (20, 30, []), (3, 9, [(-1), (-1), (-1), (-1), (-1), 168, 169, 170, 171]), (20, 5, []), (20, 12, []), (20, 12, []), (20, 30, []), (3, 9, [(-1), (-1), (-1), (-1), (-1), 173, 174, 175, 176]), (20, 5, []), (20, 12, []), (20, 12, []), (20, 30, []), (3, 9, [(-1), (-1), (-1), (-1), (-1), 178, 179, 180, 181]), (20, 5, []), (20, 12, []), (20, 12, []), (20, 30, []), (3, 9, [(-1), (-1), (-1), (-1), (-1), 183, 184, 185, 186]), (20, 5, []), (20, 12, []), (20, 12, []), (20, 30, []), (3, 9, [(-1), (-1), (-1), (-1), (-1), 188, 189, 190, 191]), (20, 5, []), (20, 12, []), (20, 12, []), (20, 30, []), (3, 9, [(-1), (-1), (-1), (-1), (-1), 193, 194, 195, 196]), (20, 5, []), (20, 12, []), (20, 12, []), (20, 30, []), (3, 9, [(-1), (-1), (-1), (-1), (-1), 198, 199, 200, 201]), (20, 5, []), (20, 12, []), (20, 12, []), (20, 30, []), (3, 9, [(-1), (-1), (-1), (-1), (-1), 203, 204, 205, 206]), (20, 5, []), (20, 12, []), (20, 12, []), (20, 30, []), (20, 5, []), (20, 5, []), (20, 12, []), (20, 12, []), (20, 12, []), (20, 12, []), (20, 12, []), (20, 12, []), (9, 4, [(-1), 216, 217, 218]), (20, 8, []), (20, 8, []), (20, 8, []), (9, 4, [(-1), 220, 221, 222]), (20, 8, []), (20, 8, []), (20, 8, []), (9, 4, [(-1), 224, 225, 226]), (20, 8, []), (20, 8, []), (20, 8, []), (9, 4, [(-1), 228, 229, 230]), (20, 6, []), (20, 6, []), (20, 6, []), (9, 4, [(-1), 232, 233, 234]), (20, 8, []), (20, 8, []), (20, 8, []), (9, 4, [(-1), 236, 237, 238]), (20, 8, []), (20, 8, []), (20, 8, []), (6, 21, [(-1), (-1), (-1), 240, 245, 397, 398, 399, 400, 401, 402, 403, 404, 405, 409, 413, 417, 421, 425, 1, 47]), (3, 9, [(-1), (-1), (-1), (-1), (-1), 241, 242, 243, 244]), (20, 5, []), (20, 12, []), (20, 12, []), (20, 30, []), (7, 3, [(-1), (-1), 246]), (24, 30, [247, 252, 257, 262, 267, 272, 277, 282, 287, 292, 297, 302, 307, 312, 317, 322, 327, 332, 337, 342, 347, 352, 357, 362, 367, 372, 377, 382, 387, 392]), (3, 9, [(-1), (-1), (-1), (-1), (-1), 248, 249, 250, 251]), (20, 5, []), (20, 12, []), (20, 12, []), (20, 30, []), (3, 9, [(-1), (-1), (-1), (-1), (-1), 253, 254, 255, 256]), (20, 5, []), (20, 12, []), (20, 12, []), (20, 30, []), (3, 9, [(-1), (-1), (-1), (-1), (-1), 258, 259, 260, 261]), (20, 5, []), (20, 12, []), (20, 12, []), (20, 30, []), (3, 9, [(-1), (-1), (-1), (-1), (-1), 263, 264, 265, 266]), (20, 5, []), (20, 12, []), (20, 12, []), (20, 30, []), (3, 9, [(-1), (-1), (-1), (-1), (-1), 268, 269, 270, 271]), (20, 5, []), (20, 12, []), (20, 12, []), (20, 30, []), (3, 9, [(-1), (-1), (-1), (-1), (-1), 273, 274, 275, 276]), (20, 5, []), (20, 12, []), (20, 12, []), (20, 30, []), (3, 9, [(-1), (-1), (-1), (-1), (-1), 278, 279, 280, 281]), (20, 5, []), (20, 12, []), (20, 12, []), (20, 30, []), (3, 9, [(-1), (-1), (-1), (-1), (-1), 283, 284, 285, 286]), (20, 5, []), (20, 12, []), (20, 12, []), (20, 30, []), (3, 9, [(-1), (-1), (-1), (-1), (-1), 288, 289, 290, 291]), (20, 5, []), (20, 12, []), (20, 12, []), (20, 30, []), (3, 9, [(-1), (-1), (-1), (-1), (-1), 293, 294, 295, 296]), (20, 5, []), (20, 12, []), (20, 12, []), (20, 30, []), (3, 9, [(-1), (-1), (-1), (-1), (-1), 298, 299, 300, 301]), (20, 5, []), (20, 12, []), (20, 12, []), (20, 30, []), (3, 9, [(-1), (-1), (-1), (-1), (-1), 303, 304, 305, 306]), (20, 5, []), (20, 12, []), (20, 12, []), (20, 30, []), (3, 9, [(-1), (-1), (-1), (-1), (-1), 308, 309, 310, 311]), (20, 5, []), (20, 12, []), (20, 12, []), (20, 30, []), (3, 9, [(-1), (-1), (-1), (-1), (-1), 313, 314, 315, 316]), (20, 5, []), (20, 12, []), (20, 12, []), (20, 30, []), (3, 9, [(-1), (-1), (-1), (-1), (-1), 318, 319, 320, 321]), (20, 5, []), (20, 12, []), (20, 12, []), (20, 30, []), (3, 9, [(-1), (-1), (-1), (-1), (-1), 323, 324, 325, 326]), (20, 5, []), (20, 12, []), (20, 12, []), (20, 30, []), (3, 9, [(-1), (-1), (-1), (-1), (-1), 328, 329, 330, 331]), (20, 5, []), (20, 12, []), (20, 12, []), (20, 30, []), (3, 9, [(-1), (-1), (-1), (-1), (-1), 333, 334, 335, 336]), (20, 5, []), (20, 12, []), (20, 12, []), (20, 30, []), (3, 9, [(-1), (-1), (-1), (-1), (-1), 338, 339, 340, 341]), (20, 5, []), (20, 12, []), (20, 12, []), (20, 30, []), (3, 9, [(-1), (-1), (-1), (-1), (-1), 343, 344, 345, 346]), (20, 5, []), (20, 12, []), (20, 12, []), (20, 30, []), (3, 9, [(-1), (-1), (-1), (-1), (-1), 348, 349, 350, 351]), (20, 5, []), (20, 12, []), (20, 12, []), (20, 30, []), (3, 9, [(-1), (-1), (-1), (-1), (-1), 353, 354, 355, 356]), (20, 5, []), (20, 12, []), (20, 12, []), (20, 30, []), (3, 9, [(-1), (-1), (-1), (-1), (-1), 358, 359, 360, 361]), (20, 5, []), (20, 12, []), (20, 12, []), (20, 30, []), (3, 9, [(-1), (-1), (-1), (-1), (-1), 363, 364, 365, 366]), (20, 5, []), (20, 12, []), (20, 12, []), (20, 30, []), (3, 9, [(-1), (-1), (-1), (-1), (-1), 368, 369, 370, 371]), (20, 5, []), (20, 12, []), (20, 12, []), (20, 30, []), (3, 9, [(-1), (-1), (-1), (-1), (-1), 373, 374, 375, 376]), (20, 5, []), (20, 12, []), (20, 12, []), (20, 30, []), (3, 9, [(-1), (-1), (-1), (-1), (-1), 378, 379, 380, 381]), (20, 5, []), (20, 12, []), (20, 12, []), (20, 30, []), (3, 9, [(-1), (-1), (-1), (-1), (-1), 383, 384, 385, 386]), (20, 5, []), (20, 12, []), (20, 12, []), (20, 30, []), (3, 9, [(-1), (-1), (-1), (-1), (-1), 388, 389, 390, 391]), (20, 5, []), (20, 12, []), (20, 12, []), (20, 30, []), (3, 9, [(-1), (-1), (-1), (-1), (-1), 393, 394, 395, 396]), (20, 5, []), (20, 12, []), (20, 12, []), (20, 30, []), (20, 5, []), (20, 5, []), (20, 12, []), (20, 12, []), (20, 12, []), (20, 12, []), (20, 12, []), (20, 12, []), (9, 4, [(-1), 406, 407, 408]), (20, 8, []), (20, 8, []), (20, 8, []), (9, 4, [(-1), 410, 411, 412]), (20, 8, []), (20, 8, []), (20, 8, []), (9, 4, [(-1), 414, 415, 416]), (20, 8, []), (20, 8, []), (20, 8, []), (9, 4, [(-1), 418, 419, 420]), (20, 6, []), (20, 6, []), (20, 6, []), (9, 4, [(-1), 422, 423, 424]), (20, 8, []), (20, 8, []), (20, 8, []), (9, 4, [(-1), 426, 427, 428]), (20, 8, []), (20, 8, []), (20, 8, []), (11, 29, [430, 431, 432, 433, (-1), (-1), (-1), (-1), (-1), (-1), (-1), (-1), (-1), (-1), (-1), 434, (-1), (-1), (-1), (-1), 435, 436, 437, 438, 439, (-1), 440, 441, 442]), (20, 2142, []), (20, 2142, []), (20, 2820, []), (20, 300, []), (20, 160, []), (20, 9, []), (22, 330, []), (21, 330, []), (20, 4, []), (20, 8, []), (20, 12, []), (20, 6, []), (20, 6, [])]
set_option maxRecDepth 100000 in
theorem sf0 {x y z : Int} : (Sf x y z)[(0 : Int).toNat]? = some (10, 7, [1, 49, 239, 2, 4, 8, 12]) := rfl
set_option maxRecDepth 100000 in
theorem sf1 {x y z : Int} : (Sf x y z)[(1 : Int).toNat]? = some (23, 4, [15, 23, 31, 39]) := rfl
set_option maxRecDepth 100000 in
theorem sf2 {x y z : Int} : (Sf x y z)[(2 : Int).toNat]? = some (4, 10, [(-1), (-1), (-1), 3, x, (-1), (-1), (-1), (-1), (-1)]) := rfl
set_option maxRecDepth 100000 in
theorem sf3 {x y z : Int} : (Sf x y z)[(3 : Int).toNat]? = some (20, 300, []) := rfl
set_option maxRecDepth 100000 in
theorem sf4 {x y z : Int} : (Sf x y z)[(4 : Int).toNat]? = some (2, 6, [(-1), 5, z, (-1), 6, 7]) := rfl
set_option maxRecDepth 100000 in
theorem sf5 {x y z : Int} : (Sf x y z)[(5 : Int).toNat]? = some (20, 8, []) := rfl
set_option maxRecDepth 100000 in
theorem sf6 {x y z : Int} : (Sf x y z)[(6 : Int).toNat]? = some (20, 4, []) := rfl
set_option maxRecDepth 100000 in
theorem sf7 {x y z : Int} : (Sf x y z)[(7 : Int).toNat]? = some (20, 8, []) := rfl
set_option maxRecDepth 100000 in
theorem sf8 {x y z : Int} : (Sf x y z)[(8 : Int).toNat]? = some (1, 6, [(-1), y, (-1), 9, 10, 11]) := rfl
set_option maxRecDepth 100000 in
theorem sf9 {x y z : Int} : (Sf x y z)[(9 : Int).toNat]? = some (20, 12, []) := rfl
set_option maxRecDepth 100000 in
theorem sf10 {x y z : Int} : (Sf x y z)[(10 : Int).toNat]? = some (20, 12, []) := rfl
set_option maxRecDepth 100000 in
theorem sf11 {x y z : Int} : (Sf x y z)[(11 : Int).toNat]? = some (20, 8, []) := rfl
set_option maxRecDepth 100000 in
theorem sf12 {x y z : Int} : (Sf x y z)[(12 : Int).toNat]? = some (5, 2, [13, 14]) := rfl
set_option maxRecDepth 100000 in
theorem sf13 {x y z : Int} : (Sf x y z)[(13 : Int).toNat]? = some (20, 12, []) := rfl
set_option maxRecDepth 100000 in
theorem sf14 {x y z : Int} : (Sf x y z)[(14 : Int).toNat]? = some (20, 6, []) := rfl
set_option maxRecDepth 100000 in
theorem sf15 {x y z : Int} : (Sf x y z)[(15 : Int).toNat]? = some (8, 6, [(-1), (-1), 16, 17, 18, 19]) := rfl
set_option maxRecDepth 100000 in
theorem sf16 {x y z : Int} : (Sf x y z)[(16 : Int).toNat]? = some (20, 3, []) := rfl
set_option maxRecDepth 100000 in
theorem sf17 {x y z : Int} : (Sf x y z)[(17 : Int).toNat]? = some (20, 300, []) := rfl
set_option maxRecDepth 100000 in
theorem sf18 {x y z : Int} : (Sf x y z)[(18 : Int).toNat]? = some (20, 24, []) := rfl
set_option maxRecDepth 100000 in
theorem sf19 {x y z : Int} : (Sf x y z)[(19 : Int).toNat]? = some (25, 3, [20, 21, 22]) := rfl
set_option maxRecDepth 100000 in
theorem sf20 {x y z : Int} : (Sf x y z)[(20 : Int).toNat]? = some (20, 24, []) := rfl
set_option maxRecDepth 100000 in
theorem sf21 {x y z : Int} : (Sf x y z)[(21 : Int).toNat]? = some (20, 24, []) := rfl
set_option maxRecDepth 100000 in
theorem sf22 {x y z : Int} : (Sf x y z)[(22 : Int).toNat]? = some (20, 24, []) := rfl
set_option maxRecDepth 100000 in
theorem sf23 {x y z : Int} : (Sf x y z)[(23 : Int).toNat]? = some (8, 6, [(-1), (-1), 24, 25, 26, 27]) := rfl
set_option maxRecDepth 100000 in
theorem sf24 {x y z : Int} : (Sf x y z)[(24 : Int).toNat]? = some (20, 3, []) := rfl
set_option maxRecDepth 100000 in
theorem sf25 {x y z : Int} : (Sf x y z)[(25 : Int).toNat]? = some (20, 300, []) := rfl
set_option maxRecDepth 100000 in
theorem sf26 {x y z : Int} : (Sf x y z)[(26 : Int).toNat]? = some (20, 24, []) := rfl
set_option maxRecDepth 100000 in
theorem sf27 {x y z : Int} : (Sf x y z)[(27 : Int).toNat]? = some (25, 3, [28, 29, 30]) := rfl
set_option maxRecDepth 100000 in
theorem sf28 {x y z : Int} : (Sf x y z)[(28 : Int).toNat]? = some (20, 24, []) := rfl
set_option maxRecDepth 100000 in
theorem sf29 {x y z : Int} : (Sf x y z)[(29 : Int).toNat]? = some (20, 24, []) := rfl
set_option maxRecDepth 100000 in
theorem sf30 {x y z : Int} : (Sf x y z)[(30 : Int).toNat]? = some (20, 24, []) := rfl
set_option maxRecDepth 100000 in
theorem sf31 {x y z : Int} : (Sf x y z)[(31 : Int).toNat]? = some (8, 6, [(-1), (-1), 32, 33, 34, 35]) := rfl
set_option maxRecDepth 100000 in
theorem sf32 {x y z : Int} : (Sf x y z)[(32 : Int).toNat]? = some (20, 3, []) := rfl
set_option maxRecDepth 100000 in
theorem sf33 {x y z : Int} : (Sf x y z)[(33 : Int).toNat]? = some (20, 300, []) := rfl
set_option maxRecDepth 100000 in
theorem sf34 {x y z : Int} : (Sf x y z)[(34 : Int).toNat]? = some (20, 24, []) := rfl
set_option maxRecDepth 100000 in
theorem sf35 {x y z : Int} : (Sf x y z)[(35 : Int).toNat]? = some (25, 3, [36, 37, 38]) := rfl
set_option maxRecDepth 100000 in
theorem sf36 {x y z : Int} : (Sf x y z)[(36 : Int).toNat]? = some (20, 24, []) := rfl
set_option maxRecDepth 100000 in
theorem sf37 {x y z : Int} : (Sf x y z)[(37 : Int).toNat]? = some (20, 24, []) := rfl
set_option maxRecDepth 100000 in
theorem sf38 {x y z : Int} : (Sf x y z)[(38 : Int).toNat]? = some (20, 24, []) := rfl
set_option maxRecDepth 100000 in
theorem sf39 {x y z : Int} : (Sf x y z)[(39 : Int).toNat]? = some (8, 6, [(-1), (-1), 40, 41, 42, 43]) := rfl
set_option maxRecDepth 100000 in
theorem sf40 {x y z : Int} : (Sf x y z)[(40 : Int).toNat]? = some (20, 3, []) := rfl
set_option maxRecDepth 100000 in
theorem sf41 {x y z : Int} : (Sf x y z)[(41 : Int).toNat]? = some (20, 300, []) := rfl
set_option maxRecDepth 100000 in
theorem sf42 {x y z : Int} : (Sf x y z)[(42 : Int).toNat]? = some (20, 24, []) := rfl
set_option maxRecDepth 100000 in
theorem sf43 {x y z : Int} : (Sf x y z)[(43 : Int).toNat]? = some (25, 3, [44, 45, 46]) := rfl
set_option maxRecDepth 100000 in
theorem sf44 {x y z : Int} : (Sf x y z)[(44 : Int).toNat]? = some (20, 24, []) := rfl
set_option maxRecDepth 100000 in
theorem sf45 {x y z : Int} : (Sf x y z)[(45 : Int).toNat]? = some (20, 24, []) := rfl
set_option maxRecDepth 100000 in
theorem sf46 {x y z : Int} : (Sf x y z)[(46 : Int).toNat]? = some (20, 24, []) := rfl
set_option maxRecDepth 100000 in
theorem sf47 {x y z : Int} : (Sf x y z)[(47 : Int).toNat]? = some (0, 2, [48, (-1)]) := rfl
set_option maxRecDepth 100000 in
theorem sf48 {x y z : Int} : (Sf x y z)[(48 : Int).toNat]? = some (20, 64, []) := rfl
set_option maxRecDepth 100000 in
theorem sf49 {x y z : Int} : (Sf x y z)[(49 : Int).toNat]? = some (6, 21, [(-1), (-1), (-1), 50, 55, 207, 208, 209, 210, 211, 212, 213, 214, 215, 219, 223, 227, 231, 235, 1, 47]) := rfl
set_option maxRecDepth 100000 in
theorem sf50 {x y z : Int} : (Sf x y z)[(50 : Int).toNat]? = some (3, 9, [(-1), (-1), (-1), (-1), (-1), 51, 52, 53, 54]) := rfl
set_option maxRecDepth 100000 in
theorem sf51 {x y z : Int} : (Sf x y z)[(51 : Int).toNat]? = some (20, 5, []) := rfl
set_option maxRecDepth 100000 in
theorem sf52 {x y z : Int} : (Sf x y z)[(52 : Int).toNat]? = some (20, 12, []) := rfl
set_option maxRecDepth 100000 in
theorem sf53 {x y z : Int} : (Sf x y z)[(53 : Int).toNat]? = some (20, 12, []) := rfl
set_option maxRecDepth 100000 in
theorem sf54 {x y z : Int} : (Sf x y z)[(54 : Int).toNat]? = some (20, 30, []) := rfl
set_option maxRecDepth 100000 in
theorem sf55 {x y z : Int} : (Sf x y z)[(55 : Int).toNat]? = some (7, 3, [(-1), (-1), 56]) := rfl
set_option maxRecDepth 100000 in
theorem sf56 {x y z : Int} : (Sf x y z)[(56 : Int).toNat]? = some (24, 30, [57, 62, 67, 72, 77, 82, 87, 92, 97, 102, 107, 112, 117, 122, 127, 132, 137, 142, 147, 152, 157, 162, 167, 172, 177, 182, 187, 192, 197, 202]) := rfl
set_option maxRecDepth 100000 in
theorem sf57 {x y z : Int} : (Sf x y z)[(57 : Int).toNat]? = some (3, 9, [(-1), (-1), (-1), (-1), (-1), 58, 59, 60, 61]) := rfl
set_option maxRecDepth 100000 in
theorem sf58 {x y z : Int} : (Sf x y z)[(58 : Int).toNat]? = some (20, 5, []) := rfl
set_option maxRecDepth 100000 in
theorem sf59 {x y z : Int} : (Sf x y z)[(59 : Int).toNat]? = some (20, 12, []) := rfl
set_option maxRecDepth 100000 in
theorem sf60 {x y z : Int} : (Sf x y z)[(60 : Int).toNat]? = some (20, 12, []) := rfl
set_option maxRecDepth 100000 in
theorem sf61 {x y z : Int} : (Sf x y z)[(61 : Int).toNat]? = some (20, 30, []) := rfl
set_option maxRecDepth 100000 in
theorem sf62 {x y z : Int} : (Sf x y z)[(62 : Int).toNat]? = some (3, 9, [(-1), (-1), (-1), (-1), (-1), 63, 64, 65, 66]) := rfl
set_option maxRecDepth 100000 in
theorem sf63 {x y z : Int} : (Sf x y z)[(63 : Int).toNat]? = some (20, 5, []) := rfl
set_option maxRecDepth 100000 in
theorem sf64 {x y z : Int} : (Sf x y z)[(64 : Int).toNat]? = some (20, 12, []) := rfl
set_option maxRecDepth 100000 in
theorem sf65 {x y z : Int} : (Sf x y z)[(65 : Int).toNat]? = some (20, 12, []) := rfl
set_option maxRecDepth 100000 in
theorem sf66 {x y z : Int} : (Sf x y z)[(66 : Int).toNat]? = some (20, 30, []) := rfl
set_option maxRecDepth 100000 in
theorem sf67 {x y z : Int} : (Sf x y z)[(67 : Int).toNat]? = some (3, 9, [(-1), (-1), (-1), (-1), (-1), 68, 69, 70, 71]) := rfl
set_option maxRecDepth 100000 in
theorem sf68 {x y z : Int} : (Sf x y z)[(68 : Int).toNat]? = some (20, 5, []) := rfl
set_option maxRecDepth 100000 in
theorem sf69 {x y z : Int} : (Sf x y z)[(69 : Int).toNat]? = some (20, 12, []) := rfl
set_option maxRecDepth 100000 in
theorem sf70 {x y z : Int} : (Sf x y z)[(70 : Int).toNat]? = some (20, 12, []) := rfl
set_option maxRecDepth 100000 in
theorem sf71 {x y z : Int} : (Sf x y z)[(71 : Int).toNat]? = some (20, 30, []) := rfl
set_option maxRecDepth 100000 in
theorem sf72 {x y z : Int} : (Sf x y z)[(72 : Int).toNat]? = some (3, 9, [(-1), (-1), (-1), (-1), (-1), 73, 74, 75, 76]) := rfl
set_option maxRecDepth 100000 in
theorem sf73 {x y z : Int} : (Sf x y z)[(73 : Int).toNat]? = some (20, 5, []) := rfl
set_option maxRecDepth 100000 in
theorem sf74 {x y z : Int} : (Sf x y z)[(74 : Int).toNat]? = some (20, 12, []) := rfl
set_option maxRecDepth 100000 in
theorem sf75 {x y z : Int} : (Sf x y z)[(75 : Int).toNat]? = some (20, 12, []) := rfl
set_option maxRecDepth 100000 in
theorem sf76 {x y z : Int} : (Sf x y z)[(76 : Int).toNat]? = some (20, 30, []) := rfl
set_option maxRecDepth 100000 in
theorem sf77 {x y z : Int} : (Sf x y z)[(77 : Int).toNat]? = some (3, 9, [(-1), (-1), (-1), (-1), (-1), 78, 79, 80, 81]) := rfl
set_option maxRecDepth 100000 in
theorem sf78 {x y z : Int} : (Sf x y z)[(78 : Int).toNat]? = some (20, 5, []) := rfl
set_option maxRecDepth 100000 in
theorem sf79 {x y z : Int} : (Sf x y z)[(79 : Int).toNat]? = some (20, 12, []) := rfl
set_option maxRecDepth 100000 in
theorem sf80 {x y z : Int} : (Sf x y z)[(80 : Int).toNat]? = some (20, 12, []) := rfl
set_option maxRecDepth 100000 in
theorem sf81 {x y z : Int} : (Sf x y z)[(81 : Int).toNat]? = some (20, 30, []) := rfl
set_option maxRecDepth 100000 in
theorem sf82 {x y z : Int} : (Sf x y z)[(82 : Int).toNat]? = some (3, 9, [(-1), (-1), (-1), (-1), (-1), 83, 84, 85, 86]) := rfl
set_option maxRecDepth 100000 in
theorem sf83 {x y z : Int} : (Sf x y z)[(83 : Int).toNat]? = some (20, 5, []) := rfl
set_option maxRecDepth 100000 in
theorem sf84 {x y z : Int} : (Sf x y z)[(84 : Int).toNat]? = some (20, 12, []) := rfl
set_option maxRecDepth 100000 in
theorem sf85 {x y z : Int} : (Sf x y z)[(85 : Int).toNat]? = some (20, 12, []) := rfl
set_option maxRecDepth 100000 in
theorem sf86 {x y z : Int} : (Sf x y z)[(86 : Int).toNat]? = some (20, 30, []) := rfl
set_option maxRecDepth 100000 in
theorem sf87 {x y z : Int} : (Sf x y z)[(87 : Int).toNat]? = some (3, 9, [(-1), (-1), (-1), (-1), (-1), 88, 89, 90, 91]) := rfl
set_option maxRecDepth 100000 in
theorem sf88 {x y z : Int} : (Sf x y z)[(88 : Int).toNat]? = some (20, 5, []) := rfl
set_option maxRecDepth 100000 in
theorem sf89 {x y z : Int} : (Sf x y z)[(89 : Int).toNat]? = some (20, 12, []) := rfl
set_option maxRecDepth 100000 in
theorem sf90 {x y z : Int} : (Sf x y z)[(90 : Int).toNat]? = some (20, 12, []) := rfl
set_option maxRecDepth 100000 in
theorem sf91 {x y z : Int} : (Sf x y z)[(91 : Int).toNat]? = some (20, 30, []) := rfl
set_option maxRecDepth 100000 in
theorem sf92 {x y z : Int} : (Sf x y z)[(92 : Int).toNat]? = some (3, 9, [(-1), (-1), (-1), (-1), (-1), 93, 94, 95, 96]) := rfl
set_option maxRecDepth 100000 in
theorem sf93 {x y z : Int} : (Sf x y z)[(93 : Int).toNat]? = some (20, 5, []) := rfl
set_option maxRecDepth 100000 in
theorem sf94 {x y z : Int} : (Sf x y z)[(94 : Int).toNat]? = some (20, 12, []) := rfl
set_option maxRecDepth 100000 in
theorem sf95 {x y z : Int} : (Sf x y z)[(95 : Int).toNat]? = some (20, 12, []) := rfl
set_option maxRecDepth 100000 in
theorem sf96 {x y z : Int} : (Sf x y z)[(96 : Int).toNat]? = some (20, 30, []) := rfl
set_option maxRecDepth 100000 in
theorem sf97 {x y z : Int} : (Sf x y z)[(97 : Int).toNat]? = some (3, 9, [(-1), (-1), (-1), (-1), (-1), 98, 99, 100, 101]) := rfl
set_option maxRecDepth 100000 in
theorem sf98 {x y z : Int} : (Sf x y z)[(98 : Int).toNat]? = some (20, 5, []) := rfl
set_option maxRecDepth 100000 in
theorem sf99 {x y z : Int} : (Sf x y z)[(99 : Int).toNat]? = some (20, 12, []) := rfl
set_option maxRecDepth 100000 in
theorem sf100 {x y z : Int} : (Sf x y z)[(100 : Int).toNat]? = some (20, 12, []) := rfl
set_option maxRecDepth 100000 in
theorem sf101 {x y z : Int} : (Sf x y z)[(101 : Int).toNat]? = some (20, 30, []) := rfl
set_option maxRecDepth 100000 in
theorem sf102 {x y z : Int} : (Sf x y z)[(102 : Int).toNat]? = some (3, 9, [(-1), (-1), (-1), (-1), (-1), 103, 104, 105, 106]) := rfl
set_option maxRecDepth 100000 in
theorem sf103 {x y z : Int} : (Sf x y z)[(103 : Int).toNat]? = some (20, 5, []) := rfl
set_option maxRecDepth 100000 in
theorem sf104 {x y z : Int} : (Sf x y z)[(104 : Int).toNat]? = some (20, 12, []) := rfl
set_option maxRecDepth 100000 in
theorem sf105 {x y z : Int} : (Sf x y z)[(105 : Int).toNat]? = some (20, 12, []) := rfl
set_option maxRecDepth 100000 in
theorem sf106 {x y z : Int} : (Sf x y z)[(106 : Int).toNat]? = some (20, 30, []) := rfl
set_option maxRecDepth 100000 in
theorem sf107 {x y z : Int} : (Sf x y z)[(107 : Int).toNat]? = some (3, 9, [(-1), (-1), (-1), (-1), (-1), 108, 109, 110, 111]) := rfl
set_option maxRecDepth 100000 in
theorem sf108 {x y z : Int} : (Sf x y z)[(108 : Int).toNat]? = some (20, 5, []) := rfl
set_option maxRecDepth 100000 in
theorem sf109 {x y z : Int} : (Sf x y z)[(109 : Int).toNat]? = some (20, 12, []) := rfl
set_option maxRecDepth 100000 in
theorem sf110 {x y z : Int} : (Sf x y z)[(110 : Int).toNat]? = some (20, 12, []) := rfl
set_option maxRecDepth 100000 in
theorem sf111 {x y z : Int} : (Sf x y z)[(111 : Int).toNat]? = some (20, 30, []) := rfl
set_option maxRecDepth 100000 in
theorem sf112 {x y z : Int} : (Sf x y z)[(112 : Int).toNat]? = some (3, 9, [(-1), (-1), (-1), (-1), (-1), 113, 114, 115, 116]) := rfl
set_option maxRecDepth 100000 in
theorem sf113 {x y z : Int} : (Sf x y z)[(113 : Int).toNat]? = some (20, 5, []) := rfl
set_option maxRecDepth 100000 in
theorem sf114 {x y z : Int} : (Sf x y z)[(114 : Int).toNat]? = some (20, 12, []) := rfl
set_option maxRecDepth 100000 in
theorem sf115 {x y z : Int} : (Sf x y z)[(115 : Int).toNat]? = some (20, 12, []) := rfl
set_option maxRecDepth 100000 in
theorem sf116 {x y z : Int} : (Sf x y z)[(116 : Int).toNat]? = some (20, 30, []) := rfl
set_option maxRecDepth 100000 in
theorem sf117 {x y z : Int} : (Sf x y z)[(117 : Int).toNat]? = some (3, 9, [(-1), (-1), (-1), (-1), (-1), 118, 119, 120, 121]) := rfl
set_option maxRecDepth 100000 in
theorem sf118 {x y z : Int} : (Sf x y z)[(118 : Int).toNat]? = some (20, 5, []) := rfl
set_option maxRecDepth 100000 in
theorem sf119 {x y z : Int} : (Sf x y z)[(119 : Int).toNat]? = some (20, 12, []) := rfl
set_option maxRecDepth 100000 in
theorem sf120 {x y z : Int} : (Sf x y z)[(120 : Int).toNat]? = some (20, 12, []) := rfl
set_option maxRecDepth 100000 in
theorem sf121 {x y z : Int} : (Sf x y z)[(121 : Int).toNat]? = some (20, 30, []) := rfl
set_option maxRecDepth 100000 in
theorem sf122 {x y z : Int} : (Sf x y z)[(122 : Int).toNat]? = some (3, 9, [(-1), (-1), (-1), (-1), (-1), 123, 124, 125, 126]) := rfl
set_option maxRecDepth 100000 in
theorem sf123 {x y z : Int} : (Sf x y z)[(123 : Int).toNat]? = some (20, 5, []) := rfl
set_option maxRecDepth 100000 in
theorem sf124 {x y z : Int} : (Sf x y z)[(124 : Int).toNat]? = some (20, 12, []) := rfl
set_option maxRecDepth 100000 in
theorem sf125 {x y z : Int} : (Sf x y z)[(125 : Int).toNat]? = some (20, 12, []) := rfl
set_option maxRecDepth 100000 in
theorem sf126 {x y z : Int} : (Sf x y z)[(126 : Int).toNat]? = some (20, 30, []) := rfl
set_option maxRecDepth 100000 in
theorem sf127 {x y z : Int} : (Sf x y z)[(127 : Int).toNat]? = some (3, 9, [(-1), (-1), (-1), (-1), (-1), 128, 129, 130, 131]) := rfl
set_option maxRecDepth 100000 in
theorem sf128 {x y z : Int} : (Sf x y z)[(128 : Int).toNat]? = some (20, 5, []) := rfl
set_option maxRecDepth 100000 in
theorem sf129 {x y z : Int} : (Sf x y z)[(129 : Int).toNat]? = some (20, 12, []) := rfl
set_option maxRecDepth 100000 in
theorem sf130 {x y z : Int} : (Sf x y z)[(130 : Int).toNat]? = some (20, 12, []) := rfl
set_option maxRecDepth 100000 in
theorem sf131 {x y z : Int} : (Sf x y z)[(131 : Int).toNat]? = some (20, 30, []) := rfl
set_option maxRecDepth 100000 in
theorem sf132 {x y z : Int} : (Sf x y z)[(132 : Int).toNat]? = some (3, 9, [(-1), (-1), (-1), (-1), (-1), 133, 134, 135, 136]) := rfl
set_option maxRecDepth 100000 in
theorem sf133 {x y z : Int} : (Sf x y z)[(133 : Int).toNat]? = some (20, 5, []) := rfl
set_option maxRecDepth 100000 in
theorem sf134 {x y z : Int} : (Sf x y z)[(134 : Int).toNat]? = some (20, 12, []) := rfl
set_option maxRecDepth 100000 in
theorem sf135 {x y z : Int} : (Sf x y z)[(135 : Int).toNat]? = some (20, 12, []) := rfl
set_option maxRecDepth 100000 in
theorem sf136 {x y z : Int} : (Sf x y z)[(136 : Int).toNat]? = some (20, 30, []) := rfl
set_option maxRecDepth 100000 in
theorem sf137 {x y z : Int} : (Sf x y z)[(137 : Int).toNat]? = some (3, 9, [(-1), (-1), (-1), (-1), (-1), 138, 139, 140, 141]) := rfl
set_option maxRecDepth 100000 in
theorem sf138 {x y z : Int} : (Sf x y z)[(138 : Int).toNat]? = some (20, 5, []) := rfl
set_option maxRecDepth 100000 in
theorem sf139 {x y z : Int} : (Sf x y z)[(139 : Int).toNat]? = some (20, 12, []) := rfl
set_option maxRecDepth 100000 in
theorem sf140 {x y z : Int} : (Sf x y z)[(140 : Int).toNat]? = some (20, 12, []) := rfl
set_option maxRecDepth 100000 in
theorem sf141 {x y z : Int} : (Sf x y z)[(141 : Int).toNat]? = some (20, 30, []) := rfl
set_option maxRecDepth 100000 in
theorem sf142 {x y z : Int} : (Sf x y z)[(142 : Int).toNat]? = some (3, 9, [(-1), (-1), (-1), (-1), (-1), 143, 144, 145, 146]) := rfl
set_option maxRecDepth 100000 in
theorem sf143 {x y z : Int} : (Sf x y z)[(143 : Int).toNat]? = some (20, 5, []) := rfl
set_option maxRecDepth 100000 in
theorem sf144 {x y z : Int} : (Sf x y z)[(144 : Int).toNat]? = some (20, 12, []) := rfl
set_option maxRecDepth 100000 in
theorem sf145 {x y z : Int} : (Sf x y z)[(145 : Int).toNat]? = some (20, 12, []) := rfl
set_option maxRecDepth 100000 in
theorem sf146 {x y z : Int} : (Sf x y z)[(146 : Int).toNat]? = some (20, 30, []) := rfl
set_option maxRecDepth 100000 in
theorem sf147 {x y z : Int} : (Sf x y z)[(147 : Int).toNat]? = some (3, 9, [(-1), (-1), (-1), (-1), (-1), 148, 149, 150, 151]) := rfl
set_option maxRecDepth 100000 in
theorem sf148 {x y z : Int} : (Sf x y z)[(148 : Int).toNat]? = some (20, 5, []) := rfl
set_option maxRecDepth 100000 in
theorem sf149 {x y z : Int} : (Sf x y z)[(149 : Int).toNat]? = some (20, 12, []) := rfl
set_option maxRecDepth 100000 in
theorem sf150 {x y z : Int} : (Sf x y z)[(150 : Int).toNat]? = some (20, 12, []) := rfl
set_option maxRecDepth 100000 in
theorem sf151 {x y z : Int} : (Sf x y z)[(151 : Int).toNat]? = some (20, 30, []) := rfl
set_option maxRecDepth 100000 in
theorem sf152 {x y z : Int} : (Sf x y z)[(152 : Int).toNat]? = some (3, 9, [(-1), (-1), (-1), (-1), (-1), 153, 154, 155, 156]) := rfl
set_option maxRecDepth 100000 in
theorem sf153 {x y z : Int} : (Sf x y z)[(153 : Int).toNat]? = some (20, 5, []) := rfl
set_option maxRecDepth 100000 in
theorem sf154 {x y z : Int} : (Sf x y z)[(154 : Int).toNat]? = some (20, 12, []) := rfl
set_option maxRecDepth 100000 in
theorem sf155 {x y z : Int} : (Sf x y z)[(155 : Int).toNat]? = some (20, 12, []) := rfl
set_option maxRecDepth 100000 in
theorem sf156 {x y z : Int} : (Sf x y z)[(156 : Int).toNat]? = some (20, 30, []) := rfl
set_option maxRecDepth 100000 in
theorem sf157 {x y z : Int} : (Sf x y z)[(157 : Int).toNat]? = some (3, 9, [(-1), (-1), (-1), (-1), (-1), 158, 159, 160, 161]) := rfl
set_option maxRecDepth 100000 in
theorem sf158 {x y z : Int} : (Sf x y z)[(158 : Int).toNat]? = some (20, 5, []) := rfl
set_option maxRecDepth 100000 in
theorem sf159 {x y z : Int} : (Sf x y z)[(159 : Int).toNat]? = some (20, 12, []) := rfl
set_option maxRecDepth 100000 in
theorem sf160 {x y z : Int} : (Sf x y z)[(160 : Int).toNat]? = some (20, 12, []) := rfl
set_option maxRecDepth 100000 in
theorem sf161 {x y z : Int} : (Sf x y z)[(161 : Int).toNat]? = some (20, 30, []) := rfl
set_option maxRecDepth 100000 in
theorem sf162 {x y z : Int} : (Sf x y z)[(162 : Int).toNat]? = some (3, 9, [(-1), (-1), (-1), (-1), (-1), 163, 164, 165, 166]) := rfl
set_option maxRecDepth 100000 in
theorem sf163 {x y z : Int} : (Sf x y z)[(163 : Int).toNat]? = some (20, 5, []) := rfl
set_option maxRecDepth 100000 in
theorem sf164 {x y z : Int} : (Sf x y z)[(164 : Int).toNat]? = some (20, 12, []) := rfl
set_option maxRecDepth 100000 in
theorem sf165 {x y z : Int} : (Sf x y z)[(165 : Int).toNat]? = some (20, 12, []) := rfl
set_option maxRecDepth 100000 in
theorem sf166 {x y z : Int} : (Sf x y z)[(166 : Int).toNat]? = some (20, 30, []) := rfl
set_option maxRecDepth 100000 in
theorem sf167 {x y z : Int} : (Sf x y z)[(167 : Int).toNat]? = some (3, 9, [(-1), (-1), (-1), (-1), (-1), 168, 169, 170, 171]) := rfl
set_option maxRecDepth 100000 in
theorem sf168 {x y z : Int} : (Sf x y z)[(168 : Int).toNat]? = some (20, 5, []) := rfl
set_option maxRecDepth 100000 in
theorem sf169 {x y z : Int} : (Sf x y z)[(169 : Int).toNat]? = some (20, 12, []) := rfl
set_option maxRecDepth 100000 in
theorem sf170 {x y z : Int} : (Sf x y z)[(170 : Int).toNat]? = some (20, 12, []) := rfl
set_option maxRecDepth 100000 in
theorem sf171 {x y z : Int} : (Sf x y z)[(171 : Int).toNat]? = some (20, 30, []) := rfl
set_option maxRecDepth 100000 in
theorem sf172 {x y z : Int} : (Sf x y z)[(172 : Int).toNat]? = some (3, 9, [(-1), (-1), (-1), (-1), (-1), 173, 174, 175, 176]) := rfl
set_option maxRecDepth 100000 in
theorem sf173 {x y z : Int} : (Sf x y z)[(173 : Int).toNat]? = some (20, 5, []) := rfl
set_option maxRecDepth 100000 in
theorem sf174 {x y z : Int} : (Sf x y z)[(174 : Int).toNat]? = some (20, 12, []) := rfl
set_option maxRecDepth 100000 in
theorem sf175 {x y z : Int} : (Sf x y z)[(175 : Int).toNat]? = some (20, 12, []) := rfl
set_option maxRecDepth 100000 in
theorem sf176 {x y z : Int} : (Sf x y z)[(176 : Int).toNat]? = some (20, 30, []) := rfl
set_option maxRecDepth 100000 in
theorem sf177 {x y z : Int} : (Sf x y z)[(177 : Int).toNat]? = some (3, 9, [(-1), (-1), (-1), (-1), (-1), 178, 179, 180, 181]) := rfl
set_option maxRecDepth 100000 in
theorem sf178 {x y z : Int} : (Sf x y z)[(178 : Int).toNat]? = some (20, 5, []) := rfl
set_option maxRecDepth 100000 in
theorem sf179 {x y z : Int} : (Sf x y z)[(179 : Int).toNat]? = some (20, 12, []) := rfl
set_option maxRecDepth 100000 in
theorem sf180 {x y z : Int} : (Sf x y z)[(180 : Int).toNat]? = some (20, 12, []) := rfl
set_option maxRecDepth 100000 in
theorem sf181 {x y z : Int} : (Sf x y z)[(181 : Int).toNat]? = some (20, 30, []) := rfl
set_option maxRecDepth 100000 in
theorem sf182 {x y z : Int} : (Sf x y z)[(182 : Int).toNat]? = some (3, 9, [(-1), (-1), (-1), (-1), (-1), 183, 184, 185, 186]) := rfl
set_option maxRecDepth 100000 in
theorem sf183 {x y z : Int} : (Sf x y z)[(183 : Int).toNat]? = some (20, 5, []) := rfl
set_option maxRecDepth 100000 in
theorem sf184 {x y z : Int} : (Sf x y z)[(184 : Int).toNat]? = some (20, 12, []) := rfl
set_option maxRecDepth 100000 in
theorem sf185 {x y z : Int} : (Sf x y z)[(185 : Int).toNat]? = some (20, 12, []) := rfl
set_option maxRecDepth 100000 in
theorem sf186 {x y z : Int} : (Sf x y z)[(186 : Int).toNat]? = some (20, 30, []) := rfl
set_option maxRecDepth 100000 in
theorem sf187 {x y z : Int} : (Sf x y z)[(187 : Int).toNat]? = some (3, 9, [(-1), (-1), (-1), (-1), (-1), 188, 189, 190, 191]) := rfl
set_option maxRecDepth 100000 in
theorem sf188 {x y z : Int} : (Sf x y z)[(188 : Int).toNat]? = some (20, 5, []) := rfl
set_option maxRecDepth 100000 in
theorem sf189 {x y z : Int} : (Sf x y z)[(189 : Int).toNat]? = some (20, 12, []) := rfl
set_option maxRecDepth 100000 in
theorem sf190 {x y z : Int} : (Sf x y z)[(190 : Int).toNat]? = some (20, 12, []) := rfl
set_option maxRecDepth 100000 in
theorem sf191 {x y z : Int} : (Sf x y z)[(191 : Int).toNat]? = some (20, 30, []) := rfl
set_option maxRecDepth 100000 in
theorem sf192 {x y z : Int} : (Sf x y z)[(192 : Int).toNat]? = some (3, 9, [(-1), (-1), (-1), (-1), (-1), 193, 194, 195, 196]) := rfl
set_option maxRecDepth 100000 in
theorem sf193 {x y z : Int} : (Sf x y z)[(193 : Int).toNat]? = some (20, 5, []) := rfl
set_option maxRecDepth 100000 in
theorem sf194 {x y z : Int} : (Sf x y z)[(194 : Int).toNat]? = some (20, 12, []) := rfl
set_option maxRecDepth 100000 in
theorem sf195 {x y z : Int} : (Sf x y z)[(195 : Int).toNat]? = some (20, 12, []) := rfl
set_option maxRecDepth 100000 in
theorem sf196 {x y z : Int} : (Sf x y z)[(196 : Int).toNat]? = some (20, 30, []) := rfl
set_option maxRecDepth 100000 in
theorem sf197 {x y z : Int} : (Sf x y z)[(197 : Int).toNat]? = some (3, 9, [(-1), (-1), (-1), (-1), (-1), 198, 199, 200, 201]) := rfl
set_option maxRecDepth 100000 in
theorem sf198 {x y z : Int} : (Sf x y z)[(198 : Int).toNat]? = some (20, 5, []) := rfl
set_option maxRecDepth 100000 in
theorem sf199 {x y z : Int} : (Sf x y z)[(199 : Int).toNat]? = some (20, 12, []) := rfl
set_option maxRecDepth 100000 in
theorem sf200 {x y z : Int} : (Sf x y z)[(200 : Int).toNat]? = some (20, 12, []) := rfl
set_option maxRecDepth 100000 in
theorem sf201 {x y z : Int} : (Sf x y z)[(201 : Int).toNat]? = some (20, 30, []) := rfl
set_option maxRecDepth 100000 in
theorem sf202 {x y z : Int} : (Sf x y z)[(202 : Int).toNat]? = some (3, 9, [(-1), (-1), (-1), (-1), (-1), 203, 204, 205, 206]) := rfl
set_option maxRecDepth 100000 in
theorem sf203 {x y z : Int} : (Sf x y z)[(203 : Int).toNat]? = some (20, 5, []) := rfl
set_option maxRecDepth 100000 in
theorem sf204 {x y z : Int} : (Sf x y z)[(204 : Int).toNat]? = some (20, 12, []) := rfl
set_option maxRecDepth 100000 in
theorem sf205 {x y z : Int} : (Sf x y z)[(205 : Int).toNat]? = some (20, 12, []) := rfl
set_option maxRecDepth 100000 in
theorem sf206 {x y z : Int} : (Sf x y z)[(206 : Int).toNat]? = some (20, 30, []) := rfl
set_option maxRecDepth 100000 in
theorem sf207 {x y z : Int} : (Sf x y z)[(207 : Int).toNat]? = some (20, 5, []) := rfl
set_option maxRecDepth 100000 in
theorem sf208 {x y z : Int} : (Sf x y z)[(208 : Int).toNat]? = some (20, 5, []) := rfl
set_option maxRecDepth 100000 in
theorem sf209 {x y z : Int} : (Sf x y z)[(209 : Int).toNat]? = some (20, 12, []) := rfl
set_option maxRecDepth 100000 in
theorem sf210 {x y z : Int} : (Sf x y z)[(210 : Int).toNat]? = some (20, 12, []) := rfl
set_option maxRecDepth 100000 in
theorem sf211 {x y z : Int} : (Sf x y z)[(211 : Int).toNat]? = some (20, 12, []) := rfl
set_option maxRecDepth 100000 in
theorem sf212 {x y z : Int} : (Sf x y z)[(212 : Int).toNat]? = some (20, 12, []) := rfl
set_option maxRecDepth 100000 in
theorem sf213 {x y z : Int} : (Sf x y z)[(213 : Int).toNat]? = some (20, 12, []) := rfl
set_option maxRecDepth 100000 in
theorem sf214 {x y z : Int} : (Sf x y z)[(214 : Int).toNat]? = some (20, 12, []) := rfl
set_option maxRecDepth 100000 in
theorem sf215 {x y z : Int} : (Sf x y z)[(215 : Int).toNat]? = some (9, 4, [(-1), 216, 217, 218]) := rfl
set_option maxRecDepth 100000 in
theorem sf216 {x y z : Int} : (Sf x y z)[(216 : Int).toNat]? = some (20, 8, []) := rfl
set_option maxRecDepth 100000 in
theorem sf217 {x y z : Int} : (Sf x y z)[(217 : Int).toNat]? = some (20, 8, []) := rfl
set_option maxRecDepth 100000 in
theorem sf218 {x y z : Int} : (Sf x y z)[(218 : Int).toNat]? = some (20, 8, []) := rfl
set_option maxRecDepth 100000 in
theorem sf219 {x y z : Int} : (Sf x y z)[(219 : Int).toNat]? = some (9, 4, [(-1), 220, 221, 222]) := rfl
set_option maxRecDepth 100000 in
theorem sf220 {x y z : Int} : (Sf x y z)[(220 : Int).toNat]? = some (20, 8, []) := rfl
set_option maxRecDepth 100000 in
theorem sf221 {x y z : Int} : (Sf x y z)[(221 : Int).toNat]? = some (20, 8, []) := rfl
set_option maxRecDepth 100000 in
theorem sf222 {x y z : Int} : (Sf x y z)[(222 : Int).toNat]? = some (20, 8, []) := rfl
set_option maxRecDepth 100000 in
theorem sf223 {x y z : Int} : (Sf x y z)[(223 : Int).toNat]? = some (9, 4, [(-1), 224, 225, 226]) := rfl
set_option maxRecDepth 100000 in
theorem sf224 {x y z : Int} : (Sf x y z)[(224 : Int).toNat]? = some (20, 8, []) := rfl
set_option maxRecDepth 100000 in
theorem sf225 {x y z : Int} : (Sf x y z)[(225 : Int).toNat]? = some (20, 8, []) := rfl
set_option maxRecDepth 100000 in
theorem sf226 {x y z : Int} : (Sf x y z)[(226 : Int).toNat]? = some (20, 8, []) := rfl
set_option maxRecDepth 100000 in
theorem sf227 {x y z : Int} : (Sf x y z)[(227 : Int).toNat]? = some (9, 4, [(-1), 228, 229, 230]) := rfl
set_option maxRecDepth 100000 in
theorem sf228 {x y z : Int} : (Sf x y z)[(228 : Int).toNat]? = some (20, 6, []) := rfl
set_option maxRecDepth 100000 in
theorem sf229 {x y z : Int} : (Sf x y z)[(229 : Int).toNat]? = some (20, 6, []) := rfl
set_option maxRecDepth 100000 in
theorem sf230 {x y z : Int} : (Sf x y z)[(230 : Int).toNat]? = some (20, 6, []) := rfl
set_option maxRecDepth 100000 in
theorem sf231 {x y z : Int} : (Sf x y z)[(231 : Int).toNat]? = some (9, 4, [(-1), 232, 233, 234]) := rfl
set_option maxRecDepth 100000 in
theorem sf232 {x y z : Int} : (Sf x y z)[(232 : Int).toNat]? = some (20, 8, []) := rfl
set_option maxRecDepth 100000 in
theorem sf233 {x y z : Int} : (Sf x y z)[(233 : Int).toNat]? = some (20, 8, []) := rfl
set_option maxRecDepth 100000 in
theorem sf234 {x y z : Int} : (Sf x y z)[(234 : Int).toNat]? = some (20, 8, []) := rfl
set_option maxRecDepth 100000 in
theorem sf235 {x y z : Int} : (Sf x y z)[(235 : Int).toNat]? = some (9, 4, [(-1), 236, 237, 238]) := rfl
set_option maxRecDepth 100000 in
theorem sf236 {x y z : Int} : (Sf x y z)[(236 : Int).toNat]? = some (20, 8, []) := rfl
set_option maxRecDepth 100000 in
theorem sf237 {x y z : Int} : (Sf x y z)[(237 : Int).toNat]? = some (20, 8, []) := rfl
set_option maxRecDepth 100000 in
theorem sf238 {x y z : Int} : (Sf x y z)[(238 : Int).toNat]? = some (20, 8, []) := rfl
set_option maxRecDepth 100000 in
theorem sf239 {x y z : Int} : (Sf x y z)[(239 : Int).toNat]? = some (6, 21, [(-1), (-1), (-1), 240, 245, 397, 398, 399, 400, 401, 402, 403, 404, 405, 409, 413, 417, 421, 425, 1, 47]) := rfl
set_option maxRecDepth 100000 in
theorem sf240 {x y z : Int} : (Sf x y z)[(240 : Int).toNat]? = some (3, 9, [(-1), (-1), (-1), (-1), (-1), 241, 242, 243, 244]) := rfl
set_option maxRecDepth 100000 in
theorem sf241 {x y z : Int} : (Sf x y z)[(241 : Int).toNat]? = some (20, 5, []) := rfl
set_option maxRecDepth 100000 in
theorem sf242 {x y z : Int} : (Sf x y z)[(242 : Int).toNat]? = some (20, 12, []) := rfl
set_option maxRecDepth 100000 in
theorem sf243 {x y z : Int} : (Sf x y z)[(243 : Int).toNat]? = some (20, 12, []) := rfl
set_option maxRecDepth 100000 in
theorem sf244 {x y z : Int} : (Sf x y z)[(244 : Int).toNat]? = some (20, 30, []) := rfl
set_option maxRecDepth 100000 in
theorem sf245 {x y z : Int} : (Sf x y z)[(245 : Int).toNat]? = some (7, 3, [(-1), (-1), 246]) := rfl
set_option maxRecDepth 100000 in
theorem sf246 {x y z : Int} : (Sf x y z)[(246 : Int).toNat]? = some (24, 30, [247, 252, 257, 262, 267, 272, 277, 282, 287, 292, 297, 302, 307, 312, 317, 322, 327, 332, 337, 342, 347, 352, 357, 362, 367, 372, 377, 382, 387, 392]) := rfl
set_option maxRecDepth 100000 in
theorem sf247 {x y z : Int} : (Sf x y z)[(247 : Int).toNat]? = some (3, 9, [(-1), (-1), (-1), (-1), (-1), 248, 249, 250, 251]) := rfl
set_option maxRecDepth 100000 in
theorem sf248 {x y z : Int} : (Sf x y z)[(248 : Int).toNat]? = some (20, 5, []) := rfl
set_option maxRecDepth 100000 in
theorem sf249 {x y z : Int} : (Sf x y z)[(249 : Int).toNat]? = some (20, 12, []) := rfl
set_option maxRecDepth 100000 in
theorem sf250 {x y z : Int} : (Sf x y z)[(250 : Int).toNat]? = some (20, 12, []) := rfl
set_option maxRecDepth 100000 in
theorem sf251 {x y z : Int} : (Sf x y z)[(251 : Int).toNat]? = some (20, 30, []) := rfl
set_option maxRecDepth 100000 in
theorem sf252 {x y z : Int} : (Sf x y z)[(252 : Int).toNat]? = some (3, 9, [(-1), (-1), (-1), (-1), (-1), 253, 254, 255, 256]) := rfl
set_option maxRecDepth 100000 in
theorem sf253 {x y z : Int} : (Sf x y z)[(253 : Int).toNat]? = some (20, 5, []) := rfl
set_option maxRecDepth 100000 in
theorem sf254 {x y z : Int} : (Sf x y z)[(254 : Int).toNat]? = some (20, 12, []) := rfl
set_option maxRecDepth 100000 in
theorem sf255 {x y z : Int} : (Sf x y z)[(255 : Int).toNat]? = some (20, 12, []) := rfl
set_option maxRecDepth 100000 in
theorem sf256 {x y z : Int} : (Sf x y z)[(256 : Int).toNat]? = some (20, 30, []) := rfl
set_option maxRecDepth 100000 in
theorem sf257 {x y z : Int} : (Sf x y z)[(257 : Int).toNat]? = some (3, 9, [(-1), (-1), (-1), (-1), (-1), 258, 259, 260, 261]) := rfl
set_option maxRecDepth 100000 in
theorem sf258 {x y z : Int} : (Sf x y z)[(258 : Int).toNat]? = some (20, 5, []) := rfl
set_option maxRecDepth 100000 in
theorem sf259 {x y z : Int} : (Sf x y z)[(259 : Int).toNat]? = some (20, 12, []) := rfl
set_option maxRecDepth 100000 in
theorem sf260 {x y z : Int} : (Sf x y z)[(260 : Int).toNat]? = some (20, 12, []) := rfl
set_option maxRecDepth 100000 in
theorem sf261 {x y z : Int} : (Sf x y z)[(261 : Int).toNat]? = some (20, 30, []) := rfl
set_option maxRecDepth 100000 in
theorem sf262 {x y z : Int} : (Sf x y z)[(262 : Int).toNat]? = some (3, 9, [(-1), (-1), (-1), (-1), (-1), 263, 264, 265, 266]) := rfl
set_option maxRecDepth 100000 in
theorem sf263 {x y z : Int} : (Sf x y z)[(263 : Int).toNat]? = some (20, 5, []) := rfl
set_option maxRecDepth 100000 in
theorem sf264 {x y z : Int} : (Sf x y z)[(264 : Int).toNat]? = some (20, 12, []) := rfl
set_option maxRecDepth 100000 in
theorem sf265 {x y z : Int} : (Sf x y z)[(265 : Int).toNat]? = some (20, 12, []) := rfl
set_option maxRecDepth 100000 in
theorem sf266 {x y z : Int} : (Sf x y z)[(266 : Int).toNat]? = some (20, 30, []) := rfl
set_option maxRecDepth 100000 in
theorem sf267 {x y z : Int} : (Sf x y z)[(267 : Int).toNat]? = some (3, 9, [(-1), (-1), (-1), (-1), (-1), 268, 269, 270, 271]) := rfl
set_option maxRecDepth 100000 in
theorem sf268 {x y z : Int} : (Sf x y z)[(268 : Int).toNat]? = some (20, 5, []) := rfl
set_option maxRecDepth 100000 in
theorem sf269 {x y z : Int} : (Sf x y z)[(269 : Int).toNat]? = some (20, 12, []) := rfl
set_option maxRecDepth 100000 in
theorem sf270 {x y z : Int} : (Sf x y z)[(270 : Int).toNat]? = some (20, 12, []) := rfl
set_option maxRecDepth 100000 in
theorem sf271 {x y z : Int} : (Sf x y z)[(271 : Int).toNat]? = some (20, 30, []) := rfl
set_option maxRecDepth 100000 in
theorem sf272 {x y z : Int} : (Sf x y z)[(272 : Int).toNat]? = some (3, 9, [(-1), (-1), (-1), (-1), (-1), 273, 274, 275, 276]) := rfl
set_option maxRecDepth 100000 in
theorem sf273 {x y z : Int} : (Sf x y z)[(273 : Int).toNat]? = some (20, 5, []) := rfl
set_option maxRecDepth 100000 in
theorem sf274 {x y z : Int} : (Sf x y z)[(274 : Int).toNat]? = some (20, 12, []) := rfl
set_option maxRecDepth 100000 in
theorem sf275 {x y z : Int} : (Sf x y z)[(275 : Int).toNat]? = some (20, 12, []) := rfl
set_option maxRecDepth 100000 in
theorem sf276 {x y z : Int} : (Sf x y z)[(276 : Int).toNat]? = some (20, 30, []) := rfl
set_option maxRecDepth 100000 in
theorem sf277 {x y z : Int} : (Sf x y z)[(277 : Int).toNat]? = some (3, 9, [(-1), (-1), (-1), (-1), (-1), 278, 279, 280, 281]) := rfl
set_option maxRecDepth 100000 in
theorem sf278 {x y z : Int} : (Sf x y z)[(278 : Int).toNat]? = some (20, 5, []) := rfl
set_option maxRecDepth 100000 in
theorem sf279 {x y z : Int} : (Sf x y z)[(279 : Int).toNat]? = some (20, 12, []) := rfl
set_option maxRecDepth 100000 in
theorem sf280 {x y z : Int} : (Sf x y z)[(280 : Int).toNat]? = some (20, 12, []) := rfl
set_option maxRecDepth 100000 in
theorem sf281 {x y z : Int} : (Sf x y z)[(281 : Int).toNat]? = some (20, 30, []) := rfl
set_option maxRecDepth 100000 in
theorem sf282 {x y z : Int} : (Sf x y z)[(282 : Int).toNat]? = some (3, 9, [(-1), (-1), (-1), (-1), (-1), 283, 284, 285, 286]) := rfl
set_option maxRecDepth 100000 in
theorem sf283 {x y z : Int} : (Sf x y z)[(283 : Int).toNat]? = some (20, 5, []) := rfl
set_option maxRecDepth 100000 in
theorem sf284 {x y z : Int} : (Sf x y z)[(284 : Int).toNat]? = some (20, 12, []) := rfl
set_option maxRecDepth 100000 in
theorem sf285 {x y z : Int} : (Sf x y z)[(285 : Int).toNat]? = some (20, 12, []) := rfl
set_option maxRecDepth 100000 in
theorem sf286 {x y z : Int} : (Sf x y z)[(286 : Int).toNat]? = some (20, 30, []) := rfl
set_option maxRecDepth 100000 in
theorem sf287 {x y z : Int} : (Sf x y z)[(287 : Int).toNat]? = some (3, 9, [(-1), (-1), (-1), (-1), (-1), 288, 289, 290, 291]) := rfl
set_option maxRecDepth 100000 in
theorem sf288 {x y z : Int} : (Sf x y z)[(288 : Int).toNat]? = some (20, 5, []) := rfl
set_option maxRecDepth 100000 in
theorem sf289 {x y z : Int} : (Sf x y z)[(289 : Int).toNat]? = some (20, 12, []) := rfl
set_option maxRecDepth 100000 in
theorem sf290 {x y z : Int} : (Sf x y z)[(290 : Int).toNat]? = some (20, 12, []) := rfl
set_option maxRecDepth 100000 in
theorem sf291 {x y z : Int} : (Sf x y z)[(291 : Int).toNat]? = some (20, 30, []) := rfl
set_option maxRecDepth 100000 in
theorem sf292 {x y z : Int} : (Sf x y z)[(292 : Int).toNat]? = some (3, 9, [(-1), (-1), (-1), (-1), (-1), 293, 294, 295, 296]) := rfl
set_option maxRecDepth 100000 in
theorem sf293 {x y z : Int} : (Sf x y z)[(293 : Int).toNat]? = some (20, 5, []) := rfl
set_option maxRecDepth 100000 in
theorem sf294 {x y z : Int} : (Sf x y z)[(294 : Int).toNat]? = some (20, 12, []) := rfl
set_option maxRecDepth 100000 in
theorem sf295 {x y z : Int} : (Sf x y z)[(295 : Int).toNat]? = some (20, 12, []) := rfl
set_option maxRecDepth 100000 in
theorem sf296 {x y z : Int} : (Sf x y z)[(296 : Int).toNat]? = some (20, 30, []) := rfl
set_option maxRecDepth 100000 in
theorem sf297 {x y z : Int} : (Sf x y z)[(297 : Int).toNat]? = some (3, 9, [(-1), (-1), (-1), (-1), (-1), 298, 299, 300, 301]) := rfl
set_option maxRecDepth 100000 in
theorem sf298 {x y z : Int} : (Sf x y z)[(298 : Int).toNat]? = some (20, 5, []) := rfl
set_option maxRecDepth 100000 in
theorem sf299 {x y z : Int} : (Sf x y z)[(299 : Int).toNat]? = some (20, 12, []) := rfl
set_option maxRecDepth 100000 in
theorem sf300 {x y z : Int} : (Sf x y z)[(300 : Int).toNat]? = some (20, 12, []) := rfl
set_option maxRecDepth 100000 in
theorem sf301 {x y z : Int} : (Sf x y z)[(301 : Int).toNat]? = some (20, 30, []) := rfl
set_option maxRecDepth 100000 in
theorem sf302 {x y z : Int} : (Sf x y z)[(302 : Int).toNat]? = some (3, 9, [(-1), (-1), (-1), (-1), (-1), 303, 304, 305, 306]) := rfl
set_option maxRecDepth 100000 in
theorem sf303 {x y z : Int} : (Sf x y z)[(303 : Int).toNat]? = some (20, 5, []) := rfl
set_option maxRecDepth 100000 in
theorem sf304 {x y z : Int} : (Sf x y z)[(304 : Int).toNat]? = some (20, 12, []) := rfl
set_option maxRecDepth 100000 in
theorem sf305 {x y z : Int} : (Sf x y z)[(305 : Int).toNat]? = some (20, 12, []) := rfl
set_option maxRecDepth 100000 in
theorem sf306 {x y z : Int} : (Sf x y z)[(306 : Int).toNat]? = some (20, 30, []) := rfl
set_option maxRecDepth 100000 in
theorem sf307 {x y z : Int} : (Sf x y z)[(307 : Int).toNat]? = some (3, 9, [(-1), (-1), (-1), (-1), (-1), 308, 309, 310, 311]) := rfl
set_option maxRecDepth 100000 in
theorem sf308 {x y z : Int} : (Sf x y z)[(308 : Int).toNat]? = some (20, 5, []) := rfl
set_option maxRecDepth 100000 in
theorem sf309 {x y z : Int} : (Sf x y z)[(309 : Int).toNat]? = some (20, 12, []) := rfl
set_option maxRecDepth 100000 in
theorem sf310 {x y z : Int} : (Sf x y z)[(310 : Int).toNat]? = some (20, 12, []) := rfl
set_option maxRecDepth 100000 in
theorem sf311 {x y z : Int} : (Sf x y z)[(311 : Int).toNat]? = some (20, 30, []) := rfl
set_option maxRecDepth 100000 in
theorem sf312 {x y z : Int} : (Sf x y z)[(312 : Int).toNat]? = some (3, 9, [(-1), (-1), (-1), (-1), (-1), 313, 314, 315, 316]) := rfl
set_option maxRecDepth 100000 in
theorem sf313 {x y z : Int} : (Sf x y z)[(313 : Int).toNat]? = some (20, 5, []) := rfl
set_option maxRecDepth 100000 in
theorem sf314 {x y z : Int} : (Sf x y z)[(314 : Int).toNat]? = some (20, 12, []) := rfl
set_option maxRecDepth 100000 in
theorem sf315 {x y z : Int} : (Sf x y z)[(315 : Int).toNat]? = some (20, 12, []) := rfl
set_option maxRecDepth 100000 in
theorem sf316 {x y z : Int} : (Sf x y z)[(316 : Int).toNat]? = some (20, 30, []) := rfl
set_option maxRecDepth 100000 in
theorem sf317 {x y z : Int} : (Sf x y z)[(317 : Int).toNat]? = some (3, 9, [(-1), (-1), (-1), (-1), (-1), 318, 319, 320, 321]) := rfl
set_option maxRecDepth 100000 in
theorem sf318 {x y z : Int} : (Sf x y z)[(318 : Int).toNat]? = some (20, 5, []) := rfl
set_option maxRecDepth 100000 in
theorem sf319 {x y z : Int} : (Sf x y z)[(319 : Int).toNat]? = some (20, 12, []) := rfl
set_option maxRecDepth 100000 in
theorem sf320 {x y z : Int} : (Sf x y z)[(320 : Int).toNat]? = some (20, 12, []) := rfl
set_option maxRecDepth 100000 in
theorem sf321 {x y z : Int} : (Sf x y z)[(321 : Int).toNat]? = some (20, 30, []) := rfl
set_option maxRecDepth 100000 in
theorem sf322 {x y z : Int} : (Sf x y z)[(322 : Int).toNat]? = some (3, 9, [(-1), (-1), (-1), (-1), (-1), 323, 324, 325, 326]) := rfl
set_option maxRecDepth 100000 in
theorem sf323 {x y z : Int} : (Sf x y z)[(323 : Int).toNat]? = some (20, 5, []) := rfl
set_option maxRecDepth 100000 in
theorem sf324 {x y z : Int} : (Sf x y z)[(324 : Int).toNat]? = some (20, 12, []) := rfl
set_option maxRecDepth 100000 in
theorem sf325 {x y z : Int} : (Sf x y z)[(325 : Int).toNat]? = some (20, 12, []) := rfl
set_option maxRecDepth 100000 in
theorem sf326 {x y z : Int} : (Sf x y z)[(326 : Int).toNat]? = some (20, 30, []) := rfl
set_option maxRecDepth 100000 in
theorem sf327 {x y z : Int} : (Sf x y z)[(327 : Int).toNat]? = some (3, 9, [(-1), (-1), (-1), (-1), (-1), 328, 329, 330, 331]) := rfl
set_option maxRecDepth 100000 in
theorem sf328 {x y z : Int} : (Sf x y z)[(328 : Int).toNat]? = some (20, 5, []) := rfl
set_option maxRecDepth 100000 in
theorem sf329 {x y z : Int} : (Sf x y z)[(329 : Int).toNat]? = some (20, 12, []) := rfl
set_option maxRecDepth 100000 in
theorem sf330 {x y z : Int} : (Sf x y z)[(330 : Int).toNat]? = some (20, 12, []) := rfl
set_option maxRecDepth 100000 in
theorem sf331 {x y z : Int} : (Sf x y z)[(331 : Int).toNat]? = some (20, 30, []) := rfl
set_option maxRecDepth 100000 in
theorem sf332 {x y z : Int} : (Sf x y z)[(332 : Int).toNat]? = some (3, 9, [(-1), (-1), (-1), (-1), (-1), 333, 334, 335, 336]) := rfl
set_option maxRecDepth 100000 in
theorem sf333 {x y z : Int} : (Sf x y z)[(333 : Int).toNat]? = some (20, 5, []) := rfl
set_option maxRecDepth 100000 in
theorem sf334 {x y z : Int} : (Sf x y z)[(334 : Int).toNat]? = some (20, 12, []) := rfl
set_option maxRecDepth 100000 in
theorem sf335 {x y z : Int} : (Sf x y z)[(335 : Int).toNat]? = some (20, 12, []) := rfl
set_option maxRecDepth 100000 in
theorem sf336 {x y z : Int} : (Sf x y z)[(336 : Int).toNat]? = some (20, 30, []) := rfl
set_option maxRecDepth 100000 in
theorem sf337 {x y z : Int} : (Sf x y z)[(337 : Int).toNat]? = some (3, 9, [(-1), (-1), (-1), (-1), (-1), 338, 339, 340, 341]) := rfl
set_option maxRecDepth 100000 in
theorem sf338 {x y z : Int} : (Sf x y z)[(338 : Int).toNat]? = some (20, 5, []) := rfl
set_option maxRecDepth 100000 in
theorem sf339 {x y z : Int} : (Sf x y z)[(339 : Int).toNat]? = some (20, 12, []) := rfl
set_option maxRecDepth 100000 in
theorem sf340 {x y z : Int} : (Sf x y z)[(340 : Int).toNat]? = some (20, 12, []) := rfl
set_option maxRecDepth 100000 in
theorem sf341 {x y z : Int} : (Sf x y z)[(341 : Int).toNat]? = some (20, 30, []) := rfl
set_option maxRecDepth 100000 in
theorem sf342 {x y z : Int} : (Sf x y z)[(342 : Int).toNat]? = some (3, 9, [(-1), (-1), (-1), (-1), (-1), 343, 344, 345, 346]) := rfl
set_option maxRecDepth 100000 in
theorem sf343 {x y z : Int} : (Sf x y z)[(343 : Int).toNat]? = some (20, 5, []) := rfl
set_option maxRecDepth 100000 in
theorem sf344 {x y z : Int} : (Sf x y z)[(344 : Int).toNat]? = some (20, 12, []) := rfl
set_option maxRecDepth 100000 in
theorem sf345 {x y z : Int} : (Sf x y z)[(345 : Int).toNat]? = some (20, 12, []) := rfl
set_option maxRecDepth 100000 in
theorem sf346 {x y z : Int} : (Sf x y z)[(346 : Int).toNat]? = some (20, 30, []) := rfl
set_option maxRecDepth 100000 in
theorem sf347 {x y z : Int} : (Sf x y z)[(347 : Int).toNat]? = some (3, 9, [(-1), (-1), (-1), (-1), (-1), 348, 349, 350, 351]) := rfl
set_option maxRecDepth 100000 in
theorem sf348 {x y z : Int} : (Sf x y z)[(348 : Int).toNat]? = some (20, 5, []) := rfl
set_option maxRecDepth 100000 in
theorem sf349 {x y z : Int} : (Sf x y z)[(349 : Int).toNat]? = some (20, 12, []) := rfl
set_option maxRecDepth 100000 in
theorem sf350 {x y z : Int} : (Sf x y z)[(350 : Int).toNat]? = some (20, 12, []) := rfl
set_option maxRecDepth 100000 in
theorem sf351 {x y z : Int} : (Sf x y z)[(351 : Int).toNat]? = some (20, 30, []) := rfl
set_option maxRecDepth 100000 in
theorem sf352 {x y z : Int} : (Sf x y z)[(352 : Int).toNat]? = some (3, 9, [(-1), (-1), (-1), (-1), (-1), 353, 354, 355, 356]) := rfl
set_option maxRecDepth 100000 in
theorem sf353 {x y z : Int} : (Sf x y z)[(353 : Int).toNat]? = some (20, 5, []) := rfl
set_option maxRecDepth 100000 in
theorem sf354 {x y z : Int} : (Sf x y z)[(354 : Int).toNat]? = some (20, 12, []) := rfl
set_option maxRecDepth 100000 in
theorem sf355 {x y z : Int} : (Sf x y z)[(355 : Int).toNat]? = some (20, 12, []) := rfl
set_option maxRecDepth 100000 in
theorem sf356 {x y z : Int} : (Sf x y z)[(356 : Int).toNat]? = some (20, 30, []) := rfl
set_option maxRecDepth 100000 in
theorem sf357 {x y z : Int} : (Sf x y z)[(357 : Int).toNat]? = some (3, 9, [(-1), (-1), (-1), (-1), (-1), 358, 359, 360, 361]) := rfl
set_option maxRecDepth 100000 in
theorem sf358 {x y z : Int} : (Sf x y z)[(358 : Int).toNat]? = some (20, 5, []) := rfl
set_option maxRecDepth 100000 in
theorem sf359 {x y z : Int} : (Sf x y z)[(359 : Int).toNat]? = some (20, 12, []) := rfl
set_option maxRecDepth 100000 in
theorem sf360 {x y z : Int} : (Sf x y z)[(360 : Int).toNat]? = some (20, 12, []) := rfl
set_option maxRecDepth 100000 in
theorem sf361 {x y z : Int} : (Sf x y z)[(361 : Int).toNat]? = some (20, 30, []) := rfl
set_option maxRecDepth 100000 in
theorem sf362 {x y z : Int} : (Sf x y z)[(362 : Int).toNat]? = some (3, 9, [(-1), (-1), (-1), (-1), (-1), 363, 364, 365, 366]) := rfl
set_option maxRecDepth 100000 in
theorem sf363 {x y z : Int} : (Sf x y z)[(363 : Int).toNat]? = some (20, 5, []) := rfl
set_option maxRecDepth 100000 in
theorem sf364 {x y z : Int} : (Sf x y z)[(364 : Int).toNat]? = some (20, 12, []) := rfl
set_option maxRecDepth 100000 in
theorem sf365 {x y z : Int} : (Sf x y z)[(365 : Int).toNat]? = some (20, 12, []) := rfl
set_option maxRecDepth 100000 in
theorem sf366 {x y z : Int} : (Sf x y z)[(366 : Int).toNat]? = some (20, 30, []) := rfl
set_option maxRecDepth 100000 in
theorem sf367 {x y z : Int} : (Sf x y z)[(367 : Int).toNat]? = some (3, 9, [(-1), (-1), (-1), (-1), (-1), 368, 369, 370, 371]) := rfl
set_option maxRecDepth 100000 in
theorem sf368 {x y z : Int} : (Sf x y z)[(368 : Int).toNat]? = some (20, 5, []) := rfl
set_option maxRecDepth 100000 in
theorem sf369 {x y z : Int} : (Sf x y z)[(369 : Int).toNat]? = some (20, 12, []) := rfl
set_option maxRecDepth 100000 in
theorem sf370 {x y z : Int} : (Sf x y z)[(370 : Int).toNat]? = some (20, 12, []) := rfl
set_option maxRecDepth 100000 in
theorem sf371 {x y z : Int} : (Sf x y z)[(371 : Int).toNat]? = some (20, 30, []) := rfl
set_option maxRecDepth 100000 in
theorem sf372 {x y z : Int} : (Sf x y z)[(372 : Int).toNat]? = some (3, 9, [(-1), (-1), (-1), (-1), (-1), 373, 374, 375, 376]) := rfl
set_option maxRecDepth 100000 in
theorem sf373 {x y z : Int} : (Sf x y z)[(373 : Int).toNat]? = some (20, 5, []) := rfl
set_option maxRecDepth 100000 in
theorem sf374 {x y z : Int} : (Sf x y z)[(374 : Int).toNat]? = some (20, 12, []) := rfl
set_option maxRecDepth 100000 in
theorem sf375 {x y z : Int} : (Sf x y z)[(375 : Int).toNat]? = some (20, 12, []) := rfl
set_option maxRecDepth 100000 in
theorem sf376 {x y z : Int} : (Sf x y z)[(376 : Int).toNat]? = some (20, 30, []) := rfl
set_option maxRecDepth 100000 in
theorem sf377 {x y z : Int} : (Sf x y z)[(377 : Int).toNat]? = some (3, 9, [(-1), (-1), (-1), (-1), (-1), 378, 379, 380, 381]) := rfl
set_option maxRecDepth 100000 in
theorem sf378 {x y z : Int} : (Sf x y z)[(378 : Int).toNat]? = some (20, 5, []) := rfl
set_option maxRecDepth 100000 in
theorem sf379 {x y z : Int} : (Sf x y z)[(379 : Int).toNat]? = some (20, 12, []) := rfl
set_option maxRecDepth 100000 in
theorem sf380 {x y z : Int} : (Sf x y z)[(380 : Int).toNat]? = some (20, 12, []) := rfl
set_option maxRecDepth 100000 in
theorem sf381 {x y z : Int} : (Sf x y z)[(381 : Int).toNat]? = some (20, 30, []) := rfl
set_option maxRecDepth 100000 in
theorem sf382 {x y z : Int} : (Sf x y z)[(382 : Int).toNat]? = some (3, 9, [(-1), (-1), (-1), (-1), (-1), 383, 384, 385, 386]) := rfl
set_option maxRecDepth 100000 in
theorem sf383 {x y z : Int} : (Sf x y z)[(383 : Int).toNat]? = some (20, 5, []) := rfl
set_option maxRecDepth 100000 in
theorem sf384 {x y z : Int} : (Sf x y z)[(384 : Int).toNat]? = some (20, 12, []) := rfl
set_option maxRecDepth 100000 in
theorem sf385 {x y z : Int} : (Sf x y z)[(385 : Int).toNat]? = some (20, 12, []) := rfl
set_option maxRecDepth 100000 in
theorem sf386 {x y z : Int} : (Sf x y z)[(386 : Int).toNat]? = some (20, 30, []) := rfl
set_option maxRecDepth 100000 in
theorem sf387 {x y z : Int} : (Sf x y z)[(387 : Int).toNat]? = some (3, 9, [(-1), (-1), (-1), (-1), (-1), 388, 389, 390, 391]) := rfl
set_option maxRecDepth 100000 in
theorem sf388 {x y z : Int} : (Sf x y z)[(388 : Int).toNat]? = some (20, 5, []) := rfl
set_option maxRecDepth 100000 in
theorem sf389 {x y z : Int} : (Sf x y z)[(389 : Int).toNat]? = some (20, 12, []) := rfl
set_option maxRecDepth 100000 in
theorem sf390 {x y z : Int} : (Sf x y z)[(390 : Int).toNat]? = some (20, 12, []) := rfl
set_option maxRecDepth 100000 in
theorem sf391 {x y z : Int} : (Sf x y z)[(391 : Int).toNat]? = some (20, 30, []) := rfl
set_option maxRecDepth 100000 in
theorem sf392 {x y z : Int} : (Sf x y z)[(392 : Int).toNat]? = some (3, 9, [(-1), (-1), (-1), (-1), (-1), 393, 394, 395, 396]) := rfl
set_option maxRecDepth 100000 in
theorem sf393 {x y z : Int} : (Sf x y z)[(393 : Int).toNat]? = some (20, 5, []) := rfl
set_option maxRecDepth 100000 in
theorem sf394 {x y z : Int} : (Sf x y z)[(394 : Int).toNat]? = some (20, 12, []) := rfl
set_option maxRecDepth 100000 in
theorem sf395 {x y z : Int} : (Sf x y z)[(395 : Int).toNat]? = some (20, 12, []) := rfl
set_option maxRecDepth 100000 in
theorem sf396 {x y z : Int} : (Sf x y z)[(396 : Int).toNat]? = some (20, 30, []) := rfl
set_option maxRecDepth 100000 in
theorem sf397 {x y z : Int} : (Sf x y z)[(397 : Int).toNat]? = some (20, 5, []) := rfl
set_option maxRecDepth 100000 in
theorem sf398 {x y z : Int} : (Sf x y z)[(398 : Int).toNat]? = some (20, 5, []) := rfl
set_option maxRecDepth 100000 in
theorem sf399 {x y z : Int} : (Sf x y z)[(399 : Int).toNat]? = some (20, 12, []) := rfl
set_option maxRecDepth 100000 in
theorem sf400 {x y z : Int} : (Sf x y z)[(400 : Int).toNat]? = some (20, 12, []) := rfl
set_option maxRecDepth 100000 in
theorem sf401 {x y z : Int} : (Sf x y z)[(401 : Int).toNat]? = some (20, 12, []) := rfl
set_option maxRecDepth 100000 in
theorem sf402 {x y z : Int} : (Sf x y z)[(402 : Int).toNat]? = some (20, 12, []) := rfl
set_option maxRecDepth 100000 in
theorem sf403 {x y z : Int} : (Sf x y z)[(403 : Int).toNat]? = some (20, 12, []) := rfl
set_option maxRecDepth 100000 in
theorem sf404 {x y z : Int} : (Sf x y z)[(404 : Int).toNat]? = some (20, 12, []) := rfl
set_option maxRecDepth 100000 in
theorem sf405 {x y z : Int} : (Sf x y z)[(405 : Int).toNat]? = some (9, 4, [(-1), 406, 407, 408]) := rfl
set_option maxRecDepth 100000 in
theorem sf406 {x y z : Int} : (Sf x y z)[(406 : Int).toNat]? = some (20, 8, []) := rfl
set_option maxRecDepth 100000 in
theorem sf407 {x y z : Int} : (Sf x y z)[(407 : Int).toNat]? = some (20, 8, []) := rfl
set_option maxRecDepth 100000 in
theorem sf408 {x y z : Int} : (Sf x y z)[(408 : Int).toNat]? = some (20, 8, []) := rfl
set_option maxRecDepth 100000 in
theorem sf409 {x y z : Int} : (Sf x y z)[(409 : Int).toNat]? = some (9, 4, [(-1), 410, 411, 412]) := rfl
set_option maxRecDepth 100000 in
theorem sf410 {x y z : Int} : (Sf x y z)[(410 : Int).toNat]? = some (20, 8, []) := rfl
set_option maxRecDepth 100000 in
theorem sf411 {x y z : Int} : (Sf x y z)[(411 : Int).toNat]? = some (20, 8, []) := rfl
set_option maxRecDepth 100000 in
theorem sf412 {x y z : Int} : (Sf x y z)[(412 : Int).toNat]? = some (20, 8, []) := rfl
set_option maxRecDepth 100000 in
theorem sf413 {x y z : Int} : (Sf x y z)[(413 : Int).toNat]? = some (9, 4, [(-1), 414, 415, 416]) := rfl
set_option maxRecDepth 100000 in
theorem sf414 {x y z : Int} : (Sf x y z)[(414 : Int).toNat]? = some (20, 8, []) := rfl
set_option maxRecDepth 100000 in
theorem sf415 {x y z : Int} : (Sf x y z)[(415 : Int).toNat]? = some (20, 8, []) := rfl
set_option maxRecDepth 100000 in
theorem sf416 {x y z : Int} : (Sf x y z)[(416 : Int).toNat]? = some (20, 8, []) := rfl
set_option maxRecDepth 100000 in
theorem sf417 {x y z : Int} : (Sf x y z)[(417 : Int).toNat]? = some (9, 4, [(-1), 418, 419, 420]) := rfl
set_option maxRecDepth 100000 in
theorem sf418 {x y z : Int} : (Sf x y z)[(418 : Int).toNat]? = some (20, 6, []) := rfl
set_option maxRecDepth 100000 in
theorem sf419 {x y z : Int} : (Sf x y z)[(419 : Int).toNat]? = some (20, 6, []) := rfl
set_option maxRecDepth 100000 in
theorem sf420 {x y z : Int} : (Sf x y z)[(420 : Int).toNat]? = some (20, 6, []) := rfl
set_option maxRecDepth 100000 in
theorem sf421 {x y z : Int} : (Sf x y z)[(421 : Int).toNat]? = some (9, 4, [(-1), 422, 423, 424]) := rfl
set_option maxRecDepth 100000 in
theorem sf422 {x y z : Int} : (Sf x y z)[(422 : Int).toNat]? = some (20, 8, []) := rfl
set_option maxRecDepth 100000 in
theorem sf423 {x y z : Int} : (Sf x y z)[(423 : Int).toNat]? = some (20, 8, []) := rfl
set_option maxRecDepth 100000 in
theorem sf424 {x y z : Int} : (Sf x y z)[(424 : Int).toNat]? = some (20, 8, []) := rfl
set_option maxRecDepth 100000 in
theorem sf425 {x y z : Int} : (Sf x y z)[(425 : Int).toNat]? = some (9, 4, [(-1), 426, 427, 428]) := rfl
set_option maxRecDepth 100000 in
theorem sf426 {x y z : Int} : (Sf x y z)[(426 : Int).toNat]? = some (20, 8, []) := rfl
set_option maxRecDepth 100000 in
theorem sf427 {x y z : Int} : (Sf x y z)[(427 : Int).toNat]? = some (20, 8, []) := rfl
set_option maxRecDepth 100000 in
theorem sf428 {x y z : Int} : (Sf x y z)[(428 : Int).toNat]? = some (20, 8, []) := rfl
set_option maxRecDepth 100000 in
theorem sf429 {x y z : Int} : (Sf x y z)[(429 : Int).toNat]? = some (11, 29, [430, 431, 432, 433, (-1), (-1), (-1), (-1), (-1), (-1), (-1), (-1), (-1), (-1), (-1), 434, (-1), (-1), (-1), (-1), 435, 436, 437, 438, 439, (-1), 440, 441, 442]) := rfl
set_option maxRecDepth 100000 in
theorem sf430 {x y z : Int} : (Sf x y z)[(430 : Int).toNat]? = some (20, 2142, []) := rfl
set_option maxRecDepth 100000 in
theorem sf431 {x y z : Int} : (Sf x y z)[(431 : Int).toNat]? = some (20, 2142, []) := rfl
set_option maxRecDepth 100000 in
theorem sf432 {x y z : Int} : (Sf x y z)[(432 : Int).toNat]? = some (20, 2820, []) := rfl
set_option maxRecDepth 100000 in
theorem sf433 {x y z : Int} : (Sf x y z)[(433 : Int).toNat]? = some (20, 300, []) := rfl
set_option maxRecDepth 100000 in
theorem sf434 {x y z : Int} : (Sf x y z)[(434 : Int).toNat]? = some (20, 160, []) := rfl
set_option maxRecDepth 100000 in
theorem sf435 {x y z : Int} : (Sf x y z)[(435 : Int).toNat]? = some (20, 9, []) := rfl
set_option maxRecDepth 100000 in
theorem sf436 {x y z : Int} : (Sf x y z)[(436 : Int).toNat]? = some (22, 330, []) := rfl
set_option maxRecDepth 100000 in
theorem sf437 {x y z : Int} : (Sf x y z)[(437 : Int).toNat]? = some (21, 330, []) := rfl
set_option maxRecDepth 100000 in
theorem sf438 {x y z : Int} : (Sf x y z)[(438 : Int).toNat]? = some (20, 4, []) := rfl
set_option maxRecDepth 100000 in
theorem sf439 {x y z : Int} : (Sf x y z)[(439 : Int).toNat]? = some (20, 8, []) := rfl
set_option maxRecDepth 100000 in
theorem sf440 {x y z : Int} : (Sf x y z)[(440 : Int).toNat]? = some (20, 12, []) := rfl
set_option maxRecDepth 100000 in
theorem sf441 {x y z : Int} : (Sf x y z)[(441 : Int).toNat]? = some (20, 6, []) := rfl
set_option maxRecDepth 100000 in
theorem sf442 {x y z : Int} : (Sf x y z)[(442 : Int).toNat]? = some (20, 6, []) := rfl
