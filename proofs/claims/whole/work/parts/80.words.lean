def zBIG : List Cond := lw_tbl.filter goodWord
def zCNL : List String := [RX0, RX1, RX2, RX3, RX4, RX5, RX6, RX7, RX8, RX9, RX10, RX11, RL, RJ6, RJ9, RJ7]
def zCN (o : Nat) : String := zCNL.getD o ""
def zTL : List u_T := [TX0, TX1, TX2, TX3, TX4, TX5, TX6, TX7, TX8, TX9, TX10, TX11]
def zT (o : Nat) : u_T := zTL.getD o TX0
def ztyL : List (Nat → FieldType) := [tyX0, tyX1, tyX2, tyX3, tyX4, tyX5, tyX6, tyX7, tyX8, tyX9, tyX10, tyX11]
def zty (o : Nat) : Nat → FieldType := ztyL.getD o tyX0
def zcl12 : List vw_C := [(RX0, TX0, 6), (RX1, TX1, 5), (RX2, TX2, 4), (RX3, TX3, 4), (RX4, TX4, 4), (RX5, TX5, 12), (RX6, TX6, 3), (RX7, TX7, 7), (RX8, TX8, 8), (RX9, TX9, 5), (RX10, TX10, 13), (RX11, TX11, 44)]
def znf (ci : Nat) : Nat := (zFT.getD ci []).length
def zft (ci k : Nat) : Nat := (zFT.getD ci []).getD k 9
def zFLT : List (Nat × Nat × Nat × Nat) := [(10, 79, 8, 0), (8, 19, 8, 0), (8, 25, 8, 1), (10, 91, 8, 1), (8, 9, 8, 2), (10, 109, 8, 2), (8, 15, 8, 3), (8, 22, 8, 4), (8, 36, 8, 5), (8, 174, 8, 6), (8, 167, 8, 7), (4, 9, 4, 0), (0, 72, 4, 0), (8, 122, 4, 0), (10, 150, 4, 0), (4, 15, 4, 1), (0, 75, 4, 1), (8, 129, 4, 1), (10, 155, 4, 1), (4, 18, 4, 2), (0, 49, 4, 2), (8, 133, 4, 2), (10, 158, 4, 2), (4, 21, 4, 3), (5, 63, 4, 3), (8, 136, 4, 3), (0, 95, 4, 3), (10, 159, 4, 3), (1, 7, 1, 0), (8, 146, 1, 0), (0, 106, 1, 0), (10, 169, 1, 0), (1, 13, 1, 1), (8, 151, 1, 1), (0, 111, 1, 1), (10, 174, 1, 1), (1, 16, 1, 2), (8, 156, 1, 2), (0, 117, 1, 2), (10, 177, 1, 2), (1, 19, 1, 3), (8, 161, 1, 3), (10, 180, 1, 3), (0, 137, 1, 3), (1, 22, 1, 4), (8, 165, 1, 4), (10, 183, 1, 4), (5, 25, 5, 0), (8, 46, 5, 0), (10, 106, 5, 0), (5, 29, 5, 1), (8, 97, 5, 1), (0, 83, 5, 1), (10, 122, 5, 1), (7, 19, 5, 2), (5, 32, 5, 2), (8, 101, 5, 2), (5, 35, 5, 3), (8, 105, 5, 3), (7, 91, 5, 3), (10, 186, 5, 3), (5, 38, 5, 4), (8, 109, 5, 4), (7, 94, 5, 4), (10, 189, 5, 4), (5, 41, 5, 5), (8, 113, 5, 5), (10, 192, 5, 5), (7, 31, 5, 6), (5, 44, 5, 6), (8, 78, 5, 6), (5, 47, 5, 7), (8, 87, 5, 7), (0, 89, 5, 7), (0, 42, 5, 8), (5, 50, 5, 8), (3, 51, 5, 8), (8, 115, 5, 8), (7, 84, 5, 8), (10, 125, 5, 8), (5, 53, 5, 9), (8, 139, 5, 9), (10, 143, 5, 9), (0, 124, 5, 9), (5, 11, 5, 10), (0, 45, 5, 10), (8, 118, 5, 10), (7, 75, 5, 10), (10, 146, 5, 10), (5, 19, 5, 11), (8, 142, 5, 11), (0, 102, 5, 11), (10, 165, 5, 11), (0, 12, 0, 0), (10, 30, 0, 0), (3, 41, 0, 0), (7, 71, 0, 0), (0, 18, 0, 1), (0, 22, 0, 2), (0, 25, 0, 3), (0, 28, 0, 4), (10, 223, 0, 4), (0, 31, 0, 5), (7, 15, 7, 0), (10, 324, 7, 0), (7, 24, 7, 1), (10, 327, 7, 1), (7, 27, 7, 2), (3, 30, 7, 2), (10, 330, 7, 2), (7, 34, 7, 3), (10, 293, 7, 3), (7, 39, 7, 4), (10, 210, 7, 4), (7, 42, 7, 5), (10, 334, 7, 5), (7, 9, 7, 6), (10, 337, 7, 6), (3, 9, 3, 0), (10, 349, 3, 0), (3, 17, 3, 1), (3, 26, 3, 2), (3, 22, 3, 3), (9, 9, 9, 0), (10, 290, 9, 0), (9, 28, 9, 1), (10, 287, 9, 1), (9, 15, 9, 2), (9, 18, 9, 3), (9, 34, 9, 4), (2, 12, 2, 0), (10, 433, 2, 0), (2, 18, 2, 1), (10, 435, 2, 1), (2, 26, 2, 2), (10, 434, 2, 2), (2, 42, 2, 3), (10, 430, 2, 3), (6, 9, 6, 0), (10, 362, 6, 0), (6, 15, 6, 1), (10, 449, 6, 1), (6, 19, 6, 2), (10, 359, 6, 2), (10, 10, 10, 0), (10, 19, 10, 1), (10, 26, 10, 2), (10, 33, 10, 3), (10, 34, 10, 4), (10, 97, 10, 5), (10, 41, 10, 6), (10, 45, 10, 7), (10, 48, 10, 8), (10, 54, 10, 9), (10, 61, 10, 10), (10, 67, 10, 11), (10, 73, 10, 12), (11, 74, 11, 0), (11, 7, 11, 1), (11, 13, 11, 2), (11, 16, 11, 3), (11, 20, 11, 4), (11, 23, 11, 5), (11, 91, 11, 6), (11, 98, 11, 7), (11, 115, 11, 8), (11, 105, 11, 9), (11, 108, 11, 10), (11, 111, 11, 11), (11, 126, 11, 12), (11, 129, 11, 13), (11, 153, 11, 14), (11, 27, 11, 15), (11, 31, 11, 16), (11, 34, 11, 17), (11, 37, 11, 18), (11, 40, 11, 19), (11, 43, 11, 20), (11, 46, 11, 21), (11, 50, 11, 22), (11, 53, 11, 23), (11, 244, 11, 24), (11, 247, 11, 25), (11, 250, 11, 26), (11, 56, 11, 27), (11, 281, 11, 28), (11, 284, 11, 29), (11, 287, 11, 30), (11, 290, 11, 31), (11, 293, 11, 32), (11, 296, 11, 33), (11, 59, 11, 34), (11, 341, 11, 35), (11, 352, 11, 36), (11, 62, 11, 37), (11, 65, 11, 38), (11, 68, 11, 39), (11, 71, 11, 40), (11, 436, 11, 41), (11, 439, 11, 42), (11, 445, 11, 43)]
def zflW (e : Nat × Nat × Nat × Nat) : Cond := .fieldLink (zCN e.1) e.2.1 (zT e.2.2.1 e.2.2.2).1 (zT e.2.2.1 e.2.2.2).2.1 (zT e.2.2.1 e.2.2.2).2.2.1
def zMLT : List (Nat × Nat × Nat) := [(12, 13, 69), (10, 83, 49), (12, 18, 70), (12, 23, 71), (10, 87, 50), (8, 28, 33), (8, 33, 65), (8, 182, 62), (8, 190, 63), (8, 194, 64), (8, 198, 2), (8, 39, 51), (8, 49, 52), (8, 68, 58), (8, 54, 61), (8, 89, 60), (8, 83, 56), (8, 170, 57), (8, 58, 53), (8, 74, 55), (8, 63, 54), (8, 43, 59), (10, 94, 34), (5, 56, 30), (5, 60, 25), (10, 100, 5), (0, 35, 6), (0, 61, 4), (0, 38, 8), (0, 68, 7), (0, 54, 9), (0, 78, 2), (0, 58, 10), (10, 103, 73), (10, 112, 41), (7, 35, 35), (7, 45, 4), (10, 115, 46), (7, 57, 43), (7, 79, 31), (4, 24, 2), (7, 87, 19), (0, 120, 13), (0, 92, 14), (0, 127, 17), (0, 114, 16), (0, 98, 15), (0, 130, 1), (7, 97, 47), (10, 119, 27), (12, 28, 72), (12, 32, 82), (10, 128, 76), (10, 139, 43), (12, 37, 83), (10, 162, 79), (12, 255, 84), (10, 195, 85), (10, 198, 37), (12, 41, 86), (10, 202, 75), (10, 205, 11), (12, 45, 87), (10, 213, 13), (10, 217, 16), (12, 49, 88), (10, 220, 23), (0, 140, 24), (0, 143, 32), (12, 53, 89), (10, 226, 17), (12, 57, 90), (10, 230, 91), (10, 233, 81), (12, 109, 92), (10, 237, 18), (12, 61, 93), (10, 240, 74), (10, 243, 19), (12, 65, 94), (12, 69, 95), (12, 73, 96), (10, 246, 78), (10, 136, 77), (10, 132, 35), (10, 249, 97), (12, 77, 98), (12, 81, 99), (10, 252, 80), (10, 256, 101), (10, 259, 0), (10, 264, 2), (12, 85, 100), (12, 93, 102), (10, 269, 104), (10, 272, 21), (0, 133, 20), (12, 97, 103), (12, 101, 105), (10, 275, 22), (12, 89, 106), (12, 105, 107), (12, 247, 108), (10, 279, 6), (12, 251, 109), (12, 113, 110), (10, 280, 111), (12, 117, 112), (12, 121, 113), (12, 129, 114), (10, 283, 66), (9, 22, 0), (9, 37, 67), (9, 41, 68), (9, 45, 16), (12, 133, 115), (12, 138, 116), (12, 142, 117), (10, 296, 44), (7, 61, 12), (0, 86, 11), (12, 146, 118), (12, 150, 122), (10, 309, 119), (10, 312, 121), (10, 303, 120), (10, 300, 12), (10, 306, 1), (12, 154, 123), (12, 158, 124), (10, 315, 125), (12, 162, 126), (10, 318, 127), (12, 166, 128), (10, 321, 45), (7, 67, 44), (12, 170, 129), (12, 174, 130), (12, 178, 131), (12, 182, 132), (12, 125, 133), (10, 340, 135), (10, 343, 42), (12, 186, 134), (12, 190, 136), (10, 346, 28), (3, 33, 42), (3, 37, 29), (3, 47, 48), (3, 56, 45), (3, 60, 46), (12, 194, 137), (12, 198, 138), (10, 352, 142), (10, 366, 141), (10, 355, 140), (12, 202, 139), (12, 206, 145), (10, 373, 36), (10, 378, 143), (10, 382, 144), (10, 385, 146), (12, 211, 149), (10, 392, 148), (10, 389, 147), (12, 215, 150), (12, 219, 151), (10, 395, 152), (12, 223, 153), (12, 227, 158), (10, 404, 155), (10, 398, 154), (12, 231, 159), (10, 407, 157), (10, 401, 156), (12, 235, 160), (12, 239, 163), (10, 419, 161), (10, 422, 162), (12, 243, 164), (12, 259, 165), (10, 426, 26), (2, 22, 34), (2, 30, 2), (12, 263, 166), (12, 267, 167), (10, 442, 38), (6, 22, 3), (12, 273, 168), (10, 445, 39), (12, 278, 169), (10, 452, 40), (12, 270, 172), (11, 83, 171), (11, 79, 170), (12, 277, 174), (11, 87, 173), (12, 281, 175), (12, 17, 176), (11, 94, 177), (12, 22, 178), (12, 31, 191), (12, 27, 199), (11, 204, 198), (11, 182, 193), (11, 207, 189), (11, 136, 180), (11, 101, 179), (11, 200, 181), (11, 145, 185), (11, 139, 184), (11, 132, 183), (11, 142, 182), (11, 177, 187), (11, 149, 186), (11, 222, 197), (11, 168, 196), (11, 156, 192), (11, 162, 194), (11, 172, 195), (11, 225, 188), (11, 228, 190), (11, 231, 201), (11, 234, 200), (12, 36, 222), (11, 238, 203), (11, 314, 219), (11, 300, 218), (11, 275, 215), (11, 278, 209), (11, 241, 204), (11, 303, 221), (11, 253, 207), (11, 309, 214), (11, 268, 213), (11, 265, 212), (11, 261, 211), (11, 257, 210), (12, 40, 223), (11, 317, 205), (12, 44, 224), (11, 320, 206), (12, 48, 225), (12, 52, 226), (12, 56, 227), (12, 60, 230), (11, 326, 229), (11, 323, 228), (12, 64, 231), (11, 329, 202), (12, 68, 232), (12, 72, 233), (12, 76, 236), (11, 332, 235), (11, 335, 234), (12, 80, 237), (12, 84, 239), (11, 346, 238), (11, 338, 208), (12, 88, 240), (12, 92, 242), (11, 349, 241), (12, 96, 244), (11, 355, 243), (12, 100, 245), (12, 104, 246), (12, 108, 247), (12, 112, 248), (12, 116, 250), (11, 358, 249), (12, 120, 251), (12, 124, 252), (12, 128, 253), (12, 132, 257), (11, 369, 256), (11, 372, 254), (11, 365, 255), (12, 137, 258), (12, 141, 259), (12, 145, 260), (11, 375, 220), (11, 306, 217), (11, 272, 216), (12, 149, 261), (12, 153, 266), (11, 384, 262), (11, 387, 265), (11, 381, 264), (11, 378, 263), (12, 157, 267), (12, 161, 268), (12, 165, 269), (12, 169, 270), (12, 173, 271), (12, 177, 272), (12, 181, 273), (12, 185, 274), (12, 189, 275), (12, 193, 279), (11, 395, 278), (11, 393, 277), (11, 390, 276), (12, 197, 280), (12, 201, 283), (11, 398, 281), (11, 401, 282), (12, 205, 284), (12, 210, 288), (11, 412, 286), (11, 416, 287), (11, 404, 285), (12, 214, 290), (11, 419, 289), (12, 218, 291), (12, 222, 293), (11, 424, 292), (12, 226, 294), (12, 230, 298), (11, 430, 295), (11, 433, 297), (11, 427, 296), (12, 234, 300), (11, 442, 299), (12, 238, 301), (12, 242, 304), (11, 460, 303), (11, 465, 302), (12, 246, 305), (12, 250, 306), (12, 254, 307), (12, 258, 308), (12, 262, 309), (12, 266, 310)]
def zmlW (e : Nat × Nat × Nat) : Cond := .methodLink (zCN e.1) e.2.1 (zmt e.2.2).1
def zpnm (y : Nat) : MethodName := if y = 1000 then arraycopyName else if y = 1001 then yJ0_length_8abf5 else yJ0_charAt_5068e
def zPLT : List (Nat × Nat × Nat) := [(8, 177, 1001), (8, 186, 1002), (9, 49, 1000), (7, 51, 1000), (2, 36, 1000), (10, 436, 1000)]
def zplW (e : Nat × Nat × Nat) : Cond := .methodLink (zCN e.1) e.2.1 (zpnm e.2.2)
def zcoW (y : Nat) : Cond := .code (zmt y).1 (zmt y).2.1 (zmt y).2.2.1 (zmt y).2.2.2.1
def zSTA : List Nat := [63, 64, 2, 4, 8, 7, 9, 81, 15, 1, 80, 0, 141, 146, 3, 171, 170, 173, 200, 207, 208, 287, 285]
def zIM : List Nat := [69, 49, 70, 71, 50, 33, 65, 62, 51, 52, 58, 61, 60, 56, 57, 53, 55, 54, 59, 34, 30, 25, 5, 6, 10, 73, 41, 35, 46, 43, 31, 19, 13, 14, 17, 16, 47, 27, 72, 82, 76, 83, 79, 84, 85, 37, 86, 75, 11, 87, 88, 23, 24, 32, 89, 90, 91, 92, 18, 93, 74, 94, 95, 96, 78, 77, 97, 98, 99, 101, 100, 102, 104, 21, 20, 103, 105, 22, 106, 107, 108, 109, 110, 111, 112, 113, 114, 66, 67, 68, 115, 116, 117, 44, 12, 118, 122, 119, 121, 120, 123, 124, 125, 126, 127, 128, 45, 129, 130, 131, 132, 133, 135, 42, 134, 136, 28, 29, 48, 137, 138, 142, 140, 139, 145, 36, 143, 144, 149, 148, 147, 150, 151, 152, 153, 158, 155, 154, 159, 157, 156, 160, 163, 161, 162, 164, 165, 26, 166, 167, 38, 168, 39, 169, 40, 172, 174, 175, 176, 177, 178, 191, 199, 198, 193, 189, 180, 179, 181, 185, 184, 183, 182, 187, 186, 197, 196, 192, 194, 195, 188, 190, 201, 222, 203, 219, 218, 215, 209, 204, 221, 214, 213, 212, 211, 210, 223, 205, 224, 206, 225, 226, 227, 230, 229, 228, 231, 202, 232, 233, 236, 235, 234, 237, 239, 238, 240, 242, 241, 244, 243, 245, 246, 247, 248, 250, 249, 251, 252, 253, 257, 256, 254, 255, 258, 259, 260, 220, 217, 216, 261, 266, 262, 265, 264, 263, 267, 268, 269, 270, 271, 272, 273, 274, 275, 279, 278, 277, 276, 280, 283, 281, 282, 284, 288, 286, 290, 289, 291, 293, 292, 294, 298, 295, 297, 296, 300, 299, 301, 304, 303, 302, 305, 306, 307, 308, 309, 310]
def zSE : List Nat := [65, 62, 51, 52, 58, 61, 60, 56, 57, 53, 55, 54, 59, 10, 73, 14, 47, 76, 79, 85, 75, 24, 91, 74, 78, 77, 97, 101, 104, 20, 111, 67, 68, 119, 121, 120, 125, 127, 135, 29, 142, 140, 143, 144, 148, 147, 152, 155, 154, 157, 156, 161, 162, 177, 198, 193, 189, 180, 179, 181, 185, 184, 183, 182, 187, 186, 197, 196, 192, 194, 195, 188, 190, 201, 203, 219, 218, 215, 209, 204, 221, 214, 213, 212, 211, 210, 205, 206, 229, 228, 202, 235, 234, 238, 241, 243, 249, 256, 254, 255, 220, 217, 216, 262, 265, 264, 263, 278, 277, 276, 281, 282, 286, 289, 292, 295, 297, 296, 299, 303, 302, 69, 49, 70, 71, 50, 33, 34, 30, 25, 5, 6, 41, 35, 46, 43, 31, 19, 13, 17, 16, 27, 72, 82, 83, 84, 37, 86, 11, 87, 88, 23, 32, 89, 90, 92, 18, 93, 94, 95, 96, 98, 99, 100, 102, 21, 103, 105, 22, 106, 107, 108, 109, 110, 112, 113, 114, 66, 115, 116, 117, 44, 12, 118, 122, 123, 124, 126, 128, 45, 129, 130, 131, 132, 133, 42, 134, 136, 28, 48, 137, 138, 139, 145, 36, 149, 150, 151, 153, 158, 159, 160, 163, 164, 165, 26, 166, 167, 38, 168, 39, 169, 40, 172, 174, 175, 176, 178, 191, 199, 222, 223, 224, 225, 226, 227, 230, 231, 232, 233, 236, 237, 239, 240, 242, 244, 245, 246, 247, 248, 250, 251, 252, 253, 257, 258, 259, 260, 261, 266, 267, 268, 269, 270, 271, 272, 273, 274, 275, 279, 280, 283, 284, 288, 290, 291, 293, 294, 298, 300, 301, 304, 305, 306, 307, 308, 309, 310]
def zINI : List Nat := [12, 10, 8, 5, 4, 1, 0, 7, 3, 9, 2, 6, 11, 14, 15, 13]
def zCIT : List (Nat × Nat × Int) := [(8, 197, 100000), (0, 67, 268435456), (10, 209, 268435456), (13, 265, 1431655765), (13, 266, 858993459), (13, 267, 252645135), (9, 33, 268435456), (10, 410, 2000000000), (11, 124, 100000), (11, 125, 1000000), (11, 271, 100000000)]
def zCLT : List (Nat × Nat × Int) := [(10, 369, -1), (10, 376, -2), (10, 371, 100), (10, 411, 1103515245), (10, 413, 12345), (10, 415, 2147483648), (10, 417, 65536), (11, 77, 3), (11, 118, -1), (11, 120, 27), (11, 122, 96), (11, 210, 10261895), (11, 212, 235981828), (11, 214, 5878), (11, 216, 312166), (11, 218, 40044097), (11, 220, 453773), (11, 166, 365260), (11, 160, 555), (11, 175, 7094782), (11, 180, 139055), (11, 186, 86988807), (11, 188, 47), (11, 190, 10815598), (11, 192, 1389010550), (11, 194, 298288), (11, 196, 48833357185), (11, 198, 315743), (11, 312, 4), (11, 344, 8), (11, 361, 99), (11, 363, 60), (11, 410, -2), (11, 408, 100), (11, 422, 9999), (11, 456, 2000000000), (11, 458, 30), (11, 463, 2), (11, 448, 1103515245), (11, 450, 12345), (11, 452, 2147483648), (11, 454, 65536), (11, 469, 20), (11, 471, 9), (12, 271, 4294967295)]
def zSIX : List Nat := [93, 95, 99, 103, 107, 111, 52, 127, 131, 134, 61, 72, 154, 159, 163, 66, 81]
def zSTX : List String := ["shire", "places", "has", "owes", "builds", "walk", "road", "to", "miles", "gate", "farmer", "at", "times", "courage", "odds", "dragoons", "pace"]
set_option maxRecDepth 100000 in
theorem zFLT_s : (zFLT.map zflW).isSublist lw_tbl = true := by decide +kernel
set_option maxRecDepth 100000 in
theorem zMLT_s : (zMLT.map zmlW).isSublist lw_tbl = true := by decide +kernel
set_option maxRecDepth 100000 in
theorem zPLT_s : (zPLT.map zplW).isSublist lw_tbl = true := by decide +kernel
set_option maxRecDepth 100000 in
theorem zSTA_s : (zSTA.map (fun y => Cond.static (zmt y).1)).isSublist lw_tbl = true := by decide +kernel
set_option maxRecDepth 100000 in
theorem zIM_s : (zIM.map (fun y => Cond.instanceMethod (zmt y).1)).isSublist lw_tbl = true := by decide +kernel
set_option maxRecDepth 100000 in
theorem zSE_s : (zSE.map (fun y => Cond.selects (zmt y).1.cls (zmt y).1 (zmt y).1)).isSublist lw_tbl = true := by decide +kernel
set_option maxRecDepth 100000 in
theorem zINI_s : (zINI.map (fun o => Cond.initialized (zCN o))).isSublist lw_tbl = true := by decide +kernel
set_option maxRecDepth 100000 in
theorem zCIT_s : (zCIT.map (fun e => Cond.constant (zCN e.1) e.2.1 (Int32.ofInt e.2.2))).isSublist lw_tbl = true := by decide +kernel
set_option maxRecDepth 100000 in
theorem zCLT_s : (zCLT.map (fun e => Cond.constantLong (zCN e.1) e.2.1 (Int64.ofInt e.2.2))).isSublist lw_tbl = true := by decide +kernel
theorem zBIG_of {ws : List Cond} (h : ws.isSublist lw_tbl = true) {w : Cond} (hw : w ∈ ws) (hg : goodWord w = true) : w ∈ zBIG := List.mem_filter.mpr ⟨(List.isSublist_iff_sublist.mp h).subset hw, hg⟩
set_option maxRecDepth 100000 in
theorem zU_0 : ∀ w ∈ u_ws RX0 TX0 6, w ∈ zBIG := fun w h => List.mem_filter.mpr ⟨(show ∀ w ∈ u_ws RX0 TX0 6, w ∈ lw_tbl by decide +kernel) w h, (show ∀ w ∈ u_ws RX0 TX0 6, goodWord w = true by decide +kernel) w h⟩
set_option maxRecDepth 100000 in
theorem zU_1 : ∀ w ∈ u_ws RX1 TX1 5, w ∈ zBIG := fun w h => List.mem_filter.mpr ⟨(show ∀ w ∈ u_ws RX1 TX1 5, w ∈ lw_tbl by decide +kernel) w h, (show ∀ w ∈ u_ws RX1 TX1 5, goodWord w = true by decide +kernel) w h⟩
set_option maxRecDepth 100000 in
theorem zU_2 : ∀ w ∈ u_ws RX2 TX2 4, w ∈ zBIG := fun w h => List.mem_filter.mpr ⟨(show ∀ w ∈ u_ws RX2 TX2 4, w ∈ lw_tbl by decide +kernel) w h, (show ∀ w ∈ u_ws RX2 TX2 4, goodWord w = true by decide +kernel) w h⟩
set_option maxRecDepth 100000 in
theorem zU_3 : ∀ w ∈ u_ws RX3 TX3 4, w ∈ zBIG := fun w h => List.mem_filter.mpr ⟨(show ∀ w ∈ u_ws RX3 TX3 4, w ∈ lw_tbl by decide +kernel) w h, (show ∀ w ∈ u_ws RX3 TX3 4, goodWord w = true by decide +kernel) w h⟩
set_option maxRecDepth 100000 in
theorem zU_4 : ∀ w ∈ u_ws RX4 TX4 4, w ∈ zBIG := fun w h => List.mem_filter.mpr ⟨(show ∀ w ∈ u_ws RX4 TX4 4, w ∈ lw_tbl by decide +kernel) w h, (show ∀ w ∈ u_ws RX4 TX4 4, goodWord w = true by decide +kernel) w h⟩
set_option maxRecDepth 100000 in
theorem zU_5 : ∀ w ∈ u_ws RX5 TX5 12, w ∈ zBIG := fun w h => List.mem_filter.mpr ⟨(show ∀ w ∈ u_ws RX5 TX5 12, w ∈ lw_tbl by decide +kernel) w h, (show ∀ w ∈ u_ws RX5 TX5 12, goodWord w = true by decide +kernel) w h⟩
set_option maxRecDepth 100000 in
theorem zU_6 : ∀ w ∈ u_ws RX6 TX6 3, w ∈ zBIG := fun w h => List.mem_filter.mpr ⟨(show ∀ w ∈ u_ws RX6 TX6 3, w ∈ lw_tbl by decide +kernel) w h, (show ∀ w ∈ u_ws RX6 TX6 3, goodWord w = true by decide +kernel) w h⟩
set_option maxRecDepth 100000 in
theorem zU_7 : ∀ w ∈ u_ws RX7 TX7 7, w ∈ zBIG := fun w h => List.mem_filter.mpr ⟨(show ∀ w ∈ u_ws RX7 TX7 7, w ∈ lw_tbl by decide +kernel) w h, (show ∀ w ∈ u_ws RX7 TX7 7, goodWord w = true by decide +kernel) w h⟩
set_option maxRecDepth 100000 in
theorem zU_8 : ∀ w ∈ u_ws RX8 TX8 8, w ∈ zBIG := fun w h => List.mem_filter.mpr ⟨(show ∀ w ∈ u_ws RX8 TX8 8, w ∈ lw_tbl by decide +kernel) w h, (show ∀ w ∈ u_ws RX8 TX8 8, goodWord w = true by decide +kernel) w h⟩
set_option maxRecDepth 100000 in
theorem zU_9 : ∀ w ∈ u_ws RX9 TX9 5, w ∈ zBIG := fun w h => List.mem_filter.mpr ⟨(show ∀ w ∈ u_ws RX9 TX9 5, w ∈ lw_tbl by decide +kernel) w h, (show ∀ w ∈ u_ws RX9 TX9 5, goodWord w = true by decide +kernel) w h⟩
set_option maxRecDepth 100000 in
theorem zU_10 : ∀ w ∈ u_ws RX10 TX10 13, w ∈ zBIG := fun w h => List.mem_filter.mpr ⟨(show ∀ w ∈ u_ws RX10 TX10 13, w ∈ lw_tbl by decide +kernel) w h, (show ∀ w ∈ u_ws RX10 TX10 13, goodWord w = true by decide +kernel) w h⟩
set_option maxRecDepth 100000 in
theorem zU_11 : ∀ w ∈ u_ws RX11 TX11 44, w ∈ zBIG := fun w h => List.mem_filter.mpr ⟨(show ∀ w ∈ u_ws RX11 TX11 44, w ∈ lw_tbl by decide +kernel) w h, (show ∀ w ∈ u_ws RX11 TX11 44, goodWord w = true by decide +kernel) w h⟩
set_option maxRecDepth 100000 in
theorem zco_69 : zcoW 69 ∈ tables_1_2 := List.mem_of_getElem? (i := 176) rfl
set_option maxRecDepth 100000 in
theorem zco_49 : zcoW 49 ∈ tables_1_2 := List.mem_of_getElem? (i := 180) rfl
set_option maxRecDepth 100000 in
theorem zco_70 : zcoW 70 ∈ tables_1_2 := List.mem_of_getElem? (i := 184) rfl
set_option maxRecDepth 100000 in
theorem zco_71 : zcoW 71 ∈ tables_1_2 := List.mem_of_getElem? (i := 188) rfl
set_option maxRecDepth 100000 in
theorem zco_50 : zcoW 50 ∈ tables_1_2 := List.mem_of_getElem? (i := 192) rfl
set_option maxRecDepth 100000 in
theorem zco_33 : zcoW 33 ∈ tables_1_2 := List.mem_of_getElem? (i := 196) rfl
set_option maxRecDepth 100000 in
theorem zco_65 : zcoW 65 ∈ tables_1_2 := List.mem_of_getElem? (i := 200) rfl
set_option maxRecDepth 100000 in
theorem zco_62 : zcoW 62 ∈ tables_1_2 := List.mem_of_getElem? (i := 204) rfl
set_option maxRecDepth 100000 in
theorem zco_63 : zcoW 63 ∈ tables_1_2 := List.mem_of_getElem? (i := 207) rfl
set_option maxRecDepth 100000 in
theorem zco_64 : zcoW 64 ∈ tables_1_2 := List.mem_of_getElem? (i := 210) rfl
set_option maxRecDepth 100000 in
theorem zco_2 : zcoW 2 ∈ tables_1_2 := List.mem_of_getElem? (i := 214) rfl
set_option maxRecDepth 100000 in
theorem zco_51 : zcoW 51 ∈ tables_1_2 := List.mem_of_getElem? (i := 218) rfl
set_option maxRecDepth 100000 in
theorem zco_52 : zcoW 52 ∈ tables_1_2 := List.mem_of_getElem? (i := 222) rfl
set_option maxRecDepth 100000 in
theorem zco_58 : zcoW 58 ∈ tables_1_2 := List.mem_of_getElem? (i := 227) rfl
set_option maxRecDepth 100000 in
theorem zco_61 : zcoW 61 ∈ tables_1_2 := List.mem_of_getElem? (i := 231) rfl
set_option maxRecDepth 100000 in
theorem zco_60 : zcoW 60 ∈ tables_1_3 := List.mem_of_getElem? (i := 43) rfl
set_option maxRecDepth 100000 in
theorem zco_56 : zcoW 56 ∈ tables_1_3 := List.mem_of_getElem? (i := 48) rfl
set_option maxRecDepth 100000 in
theorem zco_57 : zcoW 57 ∈ tables_1_3 := List.mem_of_getElem? (i := 52) rfl
set_option maxRecDepth 100000 in
theorem zco_53 : zcoW 53 ∈ tables_1_3 := List.mem_of_getElem? (i := 61) rfl
set_option maxRecDepth 100000 in
theorem zco_55 : zcoW 55 ∈ tables_1_3 := List.mem_of_getElem? (i := 65) rfl
set_option maxRecDepth 100000 in
theorem zco_54 : zcoW 54 ∈ tables_1_3 := List.mem_of_getElem? (i := 73) rfl
set_option maxRecDepth 100000 in
theorem zco_59 : zcoW 59 ∈ tables_1_3 := List.mem_of_getElem? (i := 83) rfl
set_option maxRecDepth 100000 in
theorem zco_34 : zcoW 34 ∈ tables_1_3 := List.mem_of_getElem? (i := 87) rfl
set_option maxRecDepth 100000 in
theorem zco_30 : zcoW 30 ∈ tables_1_3 := List.mem_of_getElem? (i := 91) rfl
set_option maxRecDepth 100000 in
theorem zco_25 : zcoW 25 ∈ tables_1_3 := List.mem_of_getElem? (i := 95) rfl
set_option maxRecDepth 100000 in
theorem zco_5 : zcoW 5 ∈ tables_1_3 := List.mem_of_getElem? (i := 99) rfl
set_option maxRecDepth 100000 in
theorem zco_6 : zcoW 6 ∈ tables_1_3 := List.mem_of_getElem? (i := 103) rfl
set_option maxRecDepth 100000 in
theorem zco_4 : zcoW 4 ∈ tables_1_3 := List.mem_of_getElem? (i := 106) rfl
set_option maxRecDepth 100000 in
theorem zco_8 : zcoW 8 ∈ tables_1_3 := List.mem_of_getElem? (i := 109) rfl
set_option maxRecDepth 100000 in
theorem zco_7 : zcoW 7 ∈ tables_1_3 := List.mem_of_getElem? (i := 113) rfl
set_option maxRecDepth 100000 in
theorem zco_9 : zcoW 9 ∈ tables_1_3 := List.mem_of_getElem? (i := 116) rfl
set_option maxRecDepth 100000 in
theorem zco_10 : zcoW 10 ∈ tables_1_3 := List.mem_of_getElem? (i := 121) rfl
set_option maxRecDepth 100000 in
theorem zco_73 : zcoW 73 ∈ tables_1_3 := List.mem_of_getElem? (i := 125) rfl
set_option maxRecDepth 100000 in
theorem zco_41 : zcoW 41 ∈ tables_1_3 := List.mem_of_getElem? (i := 129) rfl
set_option maxRecDepth 100000 in
theorem zco_35 : zcoW 35 ∈ tables_1_3 := List.mem_of_getElem? (i := 133) rfl
set_option maxRecDepth 100000 in
theorem zco_81 : zcoW 81 ∈ tables_1_3 := List.mem_of_getElem? (i := 136) rfl
set_option maxRecDepth 100000 in
theorem zco_46 : zcoW 46 ∈ tables_1_3 := List.mem_of_getElem? (i := 141) rfl
set_option maxRecDepth 100000 in
theorem zco_43 : zcoW 43 ∈ tables_1_3 := List.mem_of_getElem? (i := 145) rfl
set_option maxRecDepth 100000 in
theorem zco_31 : zcoW 31 ∈ tables_1_3 := List.mem_of_getElem? (i := 149) rfl
set_option maxRecDepth 100000 in
theorem zco_19 : zcoW 19 ∈ tables_1_3 := List.mem_of_getElem? (i := 154) rfl
set_option maxRecDepth 100000 in
theorem zco_13 : zcoW 13 ∈ tables_1_3 := List.mem_of_getElem? (i := 158) rfl
set_option maxRecDepth 100000 in
theorem zco_14 : zcoW 14 ∈ tables_1_3 := List.mem_of_getElem? (i := 162) rfl
set_option maxRecDepth 100000 in
theorem zco_17 : zcoW 17 ∈ tables_1_3 := List.mem_of_getElem? (i := 166) rfl
set_option maxRecDepth 100000 in
theorem zco_16 : zcoW 16 ∈ tables_1_3 := List.mem_of_getElem? (i := 170) rfl
set_option maxRecDepth 100000 in
theorem zco_15 : zcoW 15 ∈ tables_1_3 := List.mem_of_getElem? (i := 173) rfl
set_option maxRecDepth 100000 in
theorem zco_1 : zcoW 1 ∈ tables_1_3 := List.mem_of_getElem? (i := 176) rfl
set_option maxRecDepth 100000 in
theorem zco_47 : zcoW 47 ∈ tables_1_3 := List.mem_of_getElem? (i := 180) rfl
set_option maxRecDepth 100000 in
theorem zco_27 : zcoW 27 ∈ tables_1_3 := List.mem_of_getElem? (i := 184) rfl
set_option maxRecDepth 100000 in
theorem zco_72 : zcoW 72 ∈ tables_1_3 := List.mem_of_getElem? (i := 188) rfl
set_option maxRecDepth 100000 in
theorem zco_82 : zcoW 82 ∈ tables_1_3 := List.mem_of_getElem? (i := 192) rfl
set_option maxRecDepth 100000 in
theorem zco_76 : zcoW 76 ∈ tables_1_3 := List.mem_of_getElem? (i := 196) rfl
set_option maxRecDepth 100000 in
theorem zco_83 : zcoW 83 ∈ tables_1_3 := List.mem_of_getElem? (i := 201) rfl
set_option maxRecDepth 100000 in
theorem zco_79 : zcoW 79 ∈ tables_1_3 := List.mem_of_getElem? (i := 205) rfl
set_option maxRecDepth 100000 in
theorem zco_84 : zcoW 84 ∈ tables_1_3 := List.mem_of_getElem? (i := 209) rfl
set_option maxRecDepth 100000 in
theorem zco_85 : zcoW 85 ∈ tables_1_3 := List.mem_of_getElem? (i := 213) rfl
set_option maxRecDepth 100000 in
theorem zco_37 : zcoW 37 ∈ tables_1_3 := List.mem_of_getElem? (i := 217) rfl
set_option maxRecDepth 100000 in
theorem zco_86 : zcoW 86 ∈ tables_1_3 := List.mem_of_getElem? (i := 221) rfl
set_option maxRecDepth 100000 in
theorem zco_75 : zcoW 75 ∈ tables_1_3 := List.mem_of_getElem? (i := 225) rfl
set_option maxRecDepth 100000 in
theorem zco_11 : zcoW 11 ∈ tables_1_3 := List.mem_of_getElem? (i := 229) rfl
set_option maxRecDepth 100000 in
theorem zco_87 : zcoW 87 ∈ tables_1_3 := List.mem_of_getElem? (i := 234) rfl
set_option maxRecDepth 100000 in
theorem zco_88 : zcoW 88 ∈ tables_1_4 := List.mem_of_getElem? (i := 0) rfl
set_option maxRecDepth 100000 in
theorem zco_23 : zcoW 23 ∈ tables_1_4 := List.mem_of_getElem? (i := 4) rfl
set_option maxRecDepth 100000 in
theorem zco_24 : zcoW 24 ∈ tables_1_4 := List.mem_of_getElem? (i := 8) rfl
set_option maxRecDepth 100000 in
theorem zco_32 : zcoW 32 ∈ tables_1_4 := List.mem_of_getElem? (i := 12) rfl
set_option maxRecDepth 100000 in
theorem zco_89 : zcoW 89 ∈ tables_1_4 := List.mem_of_getElem? (i := 16) rfl
set_option maxRecDepth 100000 in
theorem zco_90 : zcoW 90 ∈ tables_1_4 := List.mem_of_getElem? (i := 21) rfl
set_option maxRecDepth 100000 in
theorem zco_91 : zcoW 91 ∈ tables_1_4 := List.mem_of_getElem? (i := 25) rfl
set_option maxRecDepth 100000 in
theorem zco_92 : zcoW 92 ∈ tables_1_4 := List.mem_of_getElem? (i := 30) rfl
set_option maxRecDepth 100000 in
theorem zco_18 : zcoW 18 ∈ tables_1_4 := List.mem_of_getElem? (i := 34) rfl
set_option maxRecDepth 100000 in
theorem zco_93 : zcoW 93 ∈ tables_1_4 := List.mem_of_getElem? (i := 38) rfl
set_option maxRecDepth 100000 in
theorem zco_74 : zcoW 74 ∈ tables_1_4 := List.mem_of_getElem? (i := 42) rfl
set_option maxRecDepth 100000 in
theorem zco_94 : zcoW 94 ∈ tables_1_4 := List.mem_of_getElem? (i := 47) rfl
set_option maxRecDepth 100000 in
theorem zco_95 : zcoW 95 ∈ tables_1_4 := List.mem_of_getElem? (i := 51) rfl
set_option maxRecDepth 100000 in
theorem zco_96 : zcoW 96 ∈ tables_1_4 := List.mem_of_getElem? (i := 55) rfl
set_option maxRecDepth 100000 in
theorem zco_78 : zcoW 78 ∈ tables_1_4 := List.mem_of_getElem? (i := 59) rfl
set_option maxRecDepth 100000 in
theorem zco_77 : zcoW 77 ∈ tables_1_4 := List.mem_of_getElem? (i := 63) rfl
set_option maxRecDepth 100000 in
theorem zco_97 : zcoW 97 ∈ tables_1_4 := List.mem_of_getElem? (i := 68) rfl
set_option maxRecDepth 100000 in
theorem zco_98 : zcoW 98 ∈ tables_1_4 := List.mem_of_getElem? (i := 72) rfl
set_option maxRecDepth 100000 in
theorem zco_99 : zcoW 99 ∈ tables_1_4 := List.mem_of_getElem? (i := 76) rfl
set_option maxRecDepth 100000 in
theorem zco_80 : zcoW 80 ∈ tables_1_4 := List.mem_of_getElem? (i := 79) rfl
set_option maxRecDepth 100000 in
theorem zco_101 : zcoW 101 ∈ tables_1_4 := List.mem_of_getElem? (i := 83) rfl
set_option maxRecDepth 100000 in
theorem zco_0 : zcoW 0 ∈ tables_1_4 := List.mem_of_getElem? (i := 86) rfl
set_option maxRecDepth 100000 in
theorem zco_100 : zcoW 100 ∈ tables_1_4 := List.mem_of_getElem? (i := 94) rfl
set_option maxRecDepth 100000 in
theorem zco_102 : zcoW 102 ∈ tables_1_4 := List.mem_of_getElem? (i := 98) rfl
set_option maxRecDepth 100000 in
theorem zco_104 : zcoW 104 ∈ tables_1_4 := List.mem_of_getElem? (i := 102) rfl
set_option maxRecDepth 100000 in
theorem zco_21 : zcoW 21 ∈ tables_1_4 := List.mem_of_getElem? (i := 106) rfl
set_option maxRecDepth 100000 in
theorem zco_20 : zcoW 20 ∈ tables_1_4 := List.mem_of_getElem? (i := 110) rfl
set_option maxRecDepth 100000 in
theorem zco_103 : zcoW 103 ∈ tables_1_4 := List.mem_of_getElem? (i := 114) rfl
set_option maxRecDepth 100000 in
theorem zco_105 : zcoW 105 ∈ tables_1_4 := List.mem_of_getElem? (i := 118) rfl
set_option maxRecDepth 100000 in
theorem zco_22 : zcoW 22 ∈ tables_1_4 := List.mem_of_getElem? (i := 122) rfl
set_option maxRecDepth 100000 in
theorem zco_106 : zcoW 106 ∈ tables_1_4 := List.mem_of_getElem? (i := 126) rfl
set_option maxRecDepth 100000 in
theorem zco_107 : zcoW 107 ∈ tables_1_4 := List.mem_of_getElem? (i := 130) rfl
set_option maxRecDepth 100000 in
theorem zco_108 : zcoW 108 ∈ tables_1_4 := List.mem_of_getElem? (i := 134) rfl
set_option maxRecDepth 100000 in
theorem zco_109 : zcoW 109 ∈ tables_1_4 := List.mem_of_getElem? (i := 139) rfl
set_option maxRecDepth 100000 in
theorem zco_110 : zcoW 110 ∈ tables_1_4 := List.mem_of_getElem? (i := 143) rfl
set_option maxRecDepth 100000 in
theorem zco_111 : zcoW 111 ∈ tables_1_4 := List.mem_of_getElem? (i := 147) rfl
set_option maxRecDepth 100000 in
theorem zco_112 : zcoW 112 ∈ tables_1_4 := List.mem_of_getElem? (i := 151) rfl
set_option maxRecDepth 100000 in
theorem zco_113 : zcoW 113 ∈ tables_1_4 := List.mem_of_getElem? (i := 155) rfl
set_option maxRecDepth 100000 in
theorem zco_114 : zcoW 114 ∈ tables_1_4 := List.mem_of_getElem? (i := 159) rfl
set_option maxRecDepth 100000 in
theorem zco_66 : zcoW 66 ∈ tables_1_4 := List.mem_of_getElem? (i := 163) rfl
set_option maxRecDepth 100000 in
theorem zco_67 : zcoW 67 ∈ tables_1_4 := List.mem_of_getElem? (i := 169) rfl
set_option maxRecDepth 100000 in
theorem zco_68 : zcoW 68 ∈ tables_1_4 := List.mem_of_getElem? (i := 173) rfl
set_option maxRecDepth 100000 in
theorem zco_115 : zcoW 115 ∈ tables_1_4 := List.mem_of_getElem? (i := 181) rfl
set_option maxRecDepth 100000 in
theorem zco_116 : zcoW 116 ∈ tables_1_4 := List.mem_of_getElem? (i := 185) rfl
set_option maxRecDepth 100000 in
theorem zco_117 : zcoW 117 ∈ tables_1_4 := List.mem_of_getElem? (i := 189) rfl
set_option maxRecDepth 100000 in
theorem zco_44 : zcoW 44 ∈ tables_1_4 := List.mem_of_getElem? (i := 193) rfl
set_option maxRecDepth 100000 in
theorem zco_12 : zcoW 12 ∈ tables_1_4 := List.mem_of_getElem? (i := 197) rfl
set_option maxRecDepth 100000 in
theorem zco_118 : zcoW 118 ∈ tables_1_4 := List.mem_of_getElem? (i := 202) rfl
set_option maxRecDepth 100000 in
theorem zco_122 : zcoW 122 ∈ tables_1_4 := List.mem_of_getElem? (i := 206) rfl
set_option maxRecDepth 100000 in
theorem zco_119 : zcoW 119 ∈ tables_1_4 := List.mem_of_getElem? (i := 210) rfl
set_option maxRecDepth 100000 in
theorem zco_121 : zcoW 121 ∈ tables_1_4 := List.mem_of_getElem? (i := 214) rfl
set_option maxRecDepth 100000 in
theorem zco_120 : zcoW 120 ∈ tables_1_4 := List.mem_of_getElem? (i := 218) rfl
set_option maxRecDepth 100000 in
theorem zco_123 : zcoW 123 ∈ tables_1_4 := List.mem_of_getElem? (i := 224) rfl
set_option maxRecDepth 100000 in
theorem zco_124 : zcoW 124 ∈ tables_1_4 := List.mem_of_getElem? (i := 228) rfl
set_option maxRecDepth 100000 in
theorem zco_125 : zcoW 125 ∈ tables_1_4 := List.mem_of_getElem? (i := 232) rfl
set_option maxRecDepth 100000 in
theorem zco_126 : zcoW 126 ∈ tables_1_4 := List.mem_of_getElem? (i := 236) rfl
set_option maxRecDepth 100000 in
theorem zco_127 : zcoW 127 ∈ tables_1_5 := List.mem_of_getElem? (i := 0) rfl
set_option maxRecDepth 100000 in
theorem zco_128 : zcoW 128 ∈ tables_1_5 := List.mem_of_getElem? (i := 4) rfl
set_option maxRecDepth 100000 in
theorem zco_45 : zcoW 45 ∈ tables_1_5 := List.mem_of_getElem? (i := 8) rfl
set_option maxRecDepth 100000 in
theorem zco_129 : zcoW 129 ∈ tables_1_5 := List.mem_of_getElem? (i := 13) rfl
set_option maxRecDepth 100000 in
theorem zco_130 : zcoW 130 ∈ tables_1_5 := List.mem_of_getElem? (i := 17) rfl
set_option maxRecDepth 100000 in
theorem zco_131 : zcoW 131 ∈ tables_1_5 := List.mem_of_getElem? (i := 21) rfl
set_option maxRecDepth 100000 in
theorem zco_132 : zcoW 132 ∈ tables_1_5 := List.mem_of_getElem? (i := 25) rfl
set_option maxRecDepth 100000 in
theorem zco_133 : zcoW 133 ∈ tables_1_5 := List.mem_of_getElem? (i := 29) rfl
set_option maxRecDepth 100000 in
theorem zco_135 : zcoW 135 ∈ tables_1_5 := List.mem_of_getElem? (i := 33) rfl
set_option maxRecDepth 100000 in
theorem zco_42 : zcoW 42 ∈ tables_1_5 := List.mem_of_getElem? (i := 37) rfl
set_option maxRecDepth 100000 in
theorem zco_134 : zcoW 134 ∈ tables_1_5 := List.mem_of_getElem? (i := 42) rfl
set_option maxRecDepth 100000 in
theorem zco_136 : zcoW 136 ∈ tables_1_5 := List.mem_of_getElem? (i := 46) rfl
set_option maxRecDepth 100000 in
theorem zco_28 : zcoW 28 ∈ tables_1_5 := List.mem_of_getElem? (i := 50) rfl
set_option maxRecDepth 100000 in
theorem zco_29 : zcoW 29 ∈ tables_1_5 := List.mem_of_getElem? (i := 55) rfl
set_option maxRecDepth 100000 in
theorem zco_48 : zcoW 48 ∈ tables_1_5 := List.mem_of_getElem? (i := 59) rfl
set_option maxRecDepth 100000 in
theorem zco_137 : zcoW 137 ∈ tables_1_5 := List.mem_of_getElem? (i := 65) rfl
set_option maxRecDepth 100000 in
theorem zco_138 : zcoW 138 ∈ tables_1_5 := List.mem_of_getElem? (i := 69) rfl
set_option maxRecDepth 100000 in
theorem zco_142 : zcoW 142 ∈ tables_1_5 := List.mem_of_getElem? (i := 73) rfl
set_option maxRecDepth 100000 in
theorem zco_141 : zcoW 141 ∈ tables_1_5 := List.mem_of_getElem? (i := 76) rfl
set_option maxRecDepth 100000 in
theorem zco_140 : zcoW 140 ∈ tables_1_5 := List.mem_of_getElem? (i := 81) rfl
set_option maxRecDepth 100000 in
theorem zco_139 : zcoW 139 ∈ tables_1_5 := List.mem_of_getElem? (i := 85) rfl
set_option maxRecDepth 100000 in
theorem zco_145 : zcoW 145 ∈ tables_1_5 := List.mem_of_getElem? (i := 89) rfl
set_option maxRecDepth 100000 in
theorem zco_36 : zcoW 36 ∈ tables_1_5 := List.mem_of_getElem? (i := 93) rfl
set_option maxRecDepth 100000 in
theorem zco_143 : zcoW 143 ∈ tables_1_5 := List.mem_of_getElem? (i := 98) rfl
set_option maxRecDepth 100000 in
theorem zco_144 : zcoW 144 ∈ tables_1_5 := List.mem_of_getElem? (i := 102) rfl
set_option maxRecDepth 100000 in
theorem zco_146 : zcoW 146 ∈ tables_1_5 := List.mem_of_getElem? (i := 106) rfl
set_option maxRecDepth 100000 in
theorem zco_149 : zcoW 149 ∈ tables_1_5 := List.mem_of_getElem? (i := 110) rfl
set_option maxRecDepth 100000 in
theorem zco_148 : zcoW 148 ∈ tables_1_5 := List.mem_of_getElem? (i := 114) rfl
set_option maxRecDepth 100000 in
theorem zco_147 : zcoW 147 ∈ tables_1_5 := List.mem_of_getElem? (i := 118) rfl
set_option maxRecDepth 100000 in
theorem zco_150 : zcoW 150 ∈ tables_1_5 := List.mem_of_getElem? (i := 122) rfl
set_option maxRecDepth 100000 in
theorem zco_151 : zcoW 151 ∈ tables_1_5 := List.mem_of_getElem? (i := 126) rfl
set_option maxRecDepth 100000 in
theorem zco_152 : zcoW 152 ∈ tables_1_5 := List.mem_of_getElem? (i := 130) rfl
set_option maxRecDepth 100000 in
theorem zco_153 : zcoW 153 ∈ tables_1_5 := List.mem_of_getElem? (i := 134) rfl
set_option maxRecDepth 100000 in
theorem zco_158 : zcoW 158 ∈ tables_1_5 := List.mem_of_getElem? (i := 138) rfl
set_option maxRecDepth 100000 in
theorem zco_155 : zcoW 155 ∈ tables_1_5 := List.mem_of_getElem? (i := 142) rfl
set_option maxRecDepth 100000 in
theorem zco_154 : zcoW 154 ∈ tables_1_5 := List.mem_of_getElem? (i := 146) rfl
set_option maxRecDepth 100000 in
theorem zco_159 : zcoW 159 ∈ tables_1_5 := List.mem_of_getElem? (i := 150) rfl
set_option maxRecDepth 100000 in
theorem zco_157 : zcoW 157 ∈ tables_1_5 := List.mem_of_getElem? (i := 154) rfl
set_option maxRecDepth 100000 in
theorem zco_156 : zcoW 156 ∈ tables_1_5 := List.mem_of_getElem? (i := 158) rfl
set_option maxRecDepth 100000 in
theorem zco_160 : zcoW 160 ∈ tables_1_5 := List.mem_of_getElem? (i := 162) rfl
set_option maxRecDepth 100000 in
theorem zco_163 : zcoW 163 ∈ tables_1_5 := List.mem_of_getElem? (i := 166) rfl
set_option maxRecDepth 100000 in
theorem zco_161 : zcoW 161 ∈ tables_1_5 := List.mem_of_getElem? (i := 170) rfl
set_option maxRecDepth 100000 in
theorem zco_162 : zcoW 162 ∈ tables_1_5 := List.mem_of_getElem? (i := 175) rfl
set_option maxRecDepth 100000 in
theorem zco_164 : zcoW 164 ∈ tables_1_5 := List.mem_of_getElem? (i := 183) rfl
set_option maxRecDepth 100000 in
theorem zco_165 : zcoW 165 ∈ tables_1_5 := List.mem_of_getElem? (i := 187) rfl
set_option maxRecDepth 100000 in
theorem zco_26 : zcoW 26 ∈ tables_1_5 := List.mem_of_getElem? (i := 191) rfl
set_option maxRecDepth 100000 in
theorem zco_166 : zcoW 166 ∈ tables_1_5 := List.mem_of_getElem? (i := 198) rfl
set_option maxRecDepth 100000 in
theorem zco_167 : zcoW 167 ∈ tables_1_5 := List.mem_of_getElem? (i := 203) rfl
set_option maxRecDepth 100000 in
theorem zco_38 : zcoW 38 ∈ tables_1_5 := List.mem_of_getElem? (i := 207) rfl
set_option maxRecDepth 100000 in
theorem zco_3 : zcoW 3 ∈ tables_1_5 := List.mem_of_getElem? (i := 210) rfl
set_option maxRecDepth 100000 in
theorem zco_168 : zcoW 168 ∈ tables_1_5 := List.mem_of_getElem? (i := 214) rfl
set_option maxRecDepth 100000 in
theorem zco_39 : zcoW 39 ∈ tables_1_5 := List.mem_of_getElem? (i := 218) rfl
set_option maxRecDepth 100000 in
theorem zco_169 : zcoW 169 ∈ tables_1_5 := List.mem_of_getElem? (i := 222) rfl
set_option maxRecDepth 100000 in
theorem zco_40 : zcoW 40 ∈ tables_1_5 := List.mem_of_getElem? (i := 226) rfl
set_option maxRecDepth 100000 in
theorem zco_172 : zcoW 172 ∈ tables_1_6 := List.mem_of_getElem? (i := 130) rfl
set_option maxRecDepth 100000 in
theorem zco_171 : zcoW 171 ∈ tables_1_6 := List.mem_of_getElem? (i := 133) rfl
set_option maxRecDepth 100000 in
theorem zco_170 : zcoW 170 ∈ tables_1_6 := List.mem_of_getElem? (i := 137) rfl
set_option maxRecDepth 100000 in
theorem zco_174 : zcoW 174 ∈ tables_1_6 := List.mem_of_getElem? (i := 141) rfl
set_option maxRecDepth 100000 in
theorem zco_173 : zcoW 173 ∈ tables_1_6 := List.mem_of_getElem? (i := 144) rfl
set_option maxRecDepth 100000 in
theorem zco_175 : zcoW 175 ∈ tables_1_6 := List.mem_of_getElem? (i := 148) rfl
set_option maxRecDepth 100000 in
theorem zco_176 : zcoW 176 ∈ tables_1_6 := List.mem_of_getElem? (i := 152) rfl
set_option maxRecDepth 100000 in
theorem zco_177 : zcoW 177 ∈ tables_1_6 := List.mem_of_getElem? (i := 156) rfl
set_option maxRecDepth 100000 in
theorem zco_178 : zcoW 178 ∈ tables_1_6 := List.mem_of_getElem? (i := 160) rfl
set_option maxRecDepth 100000 in
theorem zco_191 : zcoW 191 ∈ tables_1_6 := List.mem_of_getElem? (i := 164) rfl
set_option maxRecDepth 100000 in
theorem zco_199 : zcoW 199 ∈ tables_1_6 := List.mem_of_getElem? (i := 168) rfl
set_option maxRecDepth 100000 in
theorem zco_198 : zcoW 198 ∈ tables_1_6 := List.mem_of_getElem? (i := 172) rfl
set_option maxRecDepth 100000 in
theorem zco_193 : zcoW 193 ∈ tables_1_6 := List.mem_of_getElem? (i := 176) rfl
set_option maxRecDepth 100000 in
theorem zco_189 : zcoW 189 ∈ tables_1_6 := List.mem_of_getElem? (i := 180) rfl
set_option maxRecDepth 100000 in
theorem zco_180 : zcoW 180 ∈ tables_1_6 := List.mem_of_getElem? (i := 184) rfl
set_option maxRecDepth 100000 in
theorem zco_179 : zcoW 179 ∈ tables_1_6 := List.mem_of_getElem? (i := 188) rfl
set_option maxRecDepth 100000 in
theorem zco_181 : zcoW 181 ∈ tables_1_6 := List.mem_of_getElem? (i := 197) rfl
set_option maxRecDepth 100000 in
theorem zco_185 : zcoW 185 ∈ tables_1_6 := List.mem_of_getElem? (i := 202) rfl
set_option maxRecDepth 100000 in
theorem zco_184 : zcoW 184 ∈ tables_1_6 := List.mem_of_getElem? (i := 206) rfl
set_option maxRecDepth 100000 in
theorem zco_183 : zcoW 183 ∈ tables_1_6 := List.mem_of_getElem? (i := 210) rfl
set_option maxRecDepth 100000 in
theorem zco_182 : zcoW 182 ∈ tables_1_6 := List.mem_of_getElem? (i := 214) rfl
set_option maxRecDepth 100000 in
theorem zco_187 : zcoW 187 ∈ tables_1_6 := List.mem_of_getElem? (i := 219) rfl
set_option maxRecDepth 100000 in
theorem zco_186 : zcoW 186 ∈ tables_1_6 := List.mem_of_getElem? (i := 223) rfl
set_option maxRecDepth 100000 in
theorem zco_197 : zcoW 197 ∈ tables_1_6 := List.mem_of_getElem? (i := 231) rfl
set_option maxRecDepth 100000 in
theorem zco_196 : zcoW 196 ∈ tables_1_6 := List.mem_of_getElem? (i := 236) rfl
set_option maxRecDepth 100000 in
theorem zco_192 : zcoW 192 ∈ tables_1_7 := List.mem_of_getElem? (i := 0) rfl
set_option maxRecDepth 100000 in
theorem zco_194 : zcoW 194 ∈ tables_1_7 := List.mem_of_getElem? (i := 4) rfl
set_option maxRecDepth 100000 in
theorem zco_195 : zcoW 195 ∈ tables_1_7 := List.mem_of_getElem? (i := 8) rfl
set_option maxRecDepth 100000 in
theorem zco_188 : zcoW 188 ∈ tables_1_7 := List.mem_of_getElem? (i := 22) rfl
set_option maxRecDepth 100000 in
theorem zco_190 : zcoW 190 ∈ tables_1_7 := List.mem_of_getElem? (i := 26) rfl
set_option maxRecDepth 100000 in
theorem zco_201 : zcoW 201 ∈ tables_1_7 := List.mem_of_getElem? (i := 30) rfl
set_option maxRecDepth 100000 in
theorem zco_200 : zcoW 200 ∈ tables_1_7 := List.mem_of_getElem? (i := 33) rfl
set_option maxRecDepth 100000 in
theorem zco_222 : zcoW 222 ∈ tables_1_7 := List.mem_of_getElem? (i := 37) rfl
set_option maxRecDepth 100000 in
theorem zco_203 : zcoW 203 ∈ tables_1_7 := List.mem_of_getElem? (i := 41) rfl
set_option maxRecDepth 100000 in
theorem zco_219 : zcoW 219 ∈ tables_1_7 := List.mem_of_getElem? (i := 46) rfl
set_option maxRecDepth 100000 in
theorem zco_218 : zcoW 218 ∈ tables_1_7 := List.mem_of_getElem? (i := 50) rfl
set_option maxRecDepth 100000 in
theorem zco_215 : zcoW 215 ∈ tables_1_7 := List.mem_of_getElem? (i := 54) rfl
set_option maxRecDepth 100000 in
theorem zco_209 : zcoW 209 ∈ tables_1_7 := List.mem_of_getElem? (i := 59) rfl
set_option maxRecDepth 100000 in
theorem zco_204 : zcoW 204 ∈ tables_1_7 := List.mem_of_getElem? (i := 63) rfl
set_option maxRecDepth 100000 in
theorem zco_221 : zcoW 221 ∈ tables_1_7 := List.mem_of_getElem? (i := 67) rfl
set_option maxRecDepth 100000 in
theorem zco_207 : zcoW 207 ∈ tables_1_7 := List.mem_of_getElem? (i := 70) rfl
set_option maxRecDepth 100000 in
theorem zco_214 : zcoW 214 ∈ tables_1_7 := List.mem_of_getElem? (i := 74) rfl
set_option maxRecDepth 100000 in
theorem zco_213 : zcoW 213 ∈ tables_1_7 := List.mem_of_getElem? (i := 78) rfl
set_option maxRecDepth 100000 in
theorem zco_212 : zcoW 212 ∈ tables_1_7 := List.mem_of_getElem? (i := 82) rfl
set_option maxRecDepth 100000 in
theorem zco_211 : zcoW 211 ∈ tables_1_7 := List.mem_of_getElem? (i := 86) rfl
set_option maxRecDepth 100000 in
theorem zco_210 : zcoW 210 ∈ tables_1_7 := List.mem_of_getElem? (i := 90) rfl
set_option maxRecDepth 100000 in
theorem zco_223 : zcoW 223 ∈ tables_1_7 := List.mem_of_getElem? (i := 94) rfl
set_option maxRecDepth 100000 in
theorem zco_205 : zcoW 205 ∈ tables_1_7 := List.mem_of_getElem? (i := 98) rfl
set_option maxRecDepth 100000 in
theorem zco_224 : zcoW 224 ∈ tables_1_7 := List.mem_of_getElem? (i := 102) rfl
set_option maxRecDepth 100000 in
theorem zco_206 : zcoW 206 ∈ tables_1_7 := List.mem_of_getElem? (i := 106) rfl
set_option maxRecDepth 100000 in
theorem zco_225 : zcoW 225 ∈ tables_1_7 := List.mem_of_getElem? (i := 110) rfl
set_option maxRecDepth 100000 in
theorem zco_226 : zcoW 226 ∈ tables_1_7 := List.mem_of_getElem? (i := 114) rfl
set_option maxRecDepth 100000 in
theorem zco_227 : zcoW 227 ∈ tables_1_7 := List.mem_of_getElem? (i := 118) rfl
set_option maxRecDepth 100000 in
theorem zco_230 : zcoW 230 ∈ tables_1_7 := List.mem_of_getElem? (i := 122) rfl
set_option maxRecDepth 100000 in
theorem zco_229 : zcoW 229 ∈ tables_1_7 := List.mem_of_getElem? (i := 126) rfl
set_option maxRecDepth 100000 in
theorem zco_228 : zcoW 228 ∈ tables_1_7 := List.mem_of_getElem? (i := 130) rfl
set_option maxRecDepth 100000 in
theorem zco_231 : zcoW 231 ∈ tables_1_7 := List.mem_of_getElem? (i := 134) rfl
set_option maxRecDepth 100000 in
theorem zco_202 : zcoW 202 ∈ tables_1_7 := List.mem_of_getElem? (i := 138) rfl
set_option maxRecDepth 100000 in
theorem zco_232 : zcoW 232 ∈ tables_1_7 := List.mem_of_getElem? (i := 142) rfl
set_option maxRecDepth 100000 in
theorem zco_233 : zcoW 233 ∈ tables_1_7 := List.mem_of_getElem? (i := 146) rfl
set_option maxRecDepth 100000 in
theorem zco_236 : zcoW 236 ∈ tables_1_7 := List.mem_of_getElem? (i := 150) rfl
set_option maxRecDepth 100000 in
theorem zco_235 : zcoW 235 ∈ tables_1_7 := List.mem_of_getElem? (i := 154) rfl
set_option maxRecDepth 100000 in
theorem zco_234 : zcoW 234 ∈ tables_1_7 := List.mem_of_getElem? (i := 158) rfl
set_option maxRecDepth 100000 in
theorem zco_237 : zcoW 237 ∈ tables_1_7 := List.mem_of_getElem? (i := 162) rfl
set_option maxRecDepth 100000 in
theorem zco_239 : zcoW 239 ∈ tables_1_7 := List.mem_of_getElem? (i := 166) rfl
set_option maxRecDepth 100000 in
theorem zco_238 : zcoW 238 ∈ tables_1_7 := List.mem_of_getElem? (i := 171) rfl
set_option maxRecDepth 100000 in
theorem zco_208 : zcoW 208 ∈ tables_1_7 := List.mem_of_getElem? (i := 174) rfl
set_option maxRecDepth 100000 in
theorem zco_240 : zcoW 240 ∈ tables_1_7 := List.mem_of_getElem? (i := 178) rfl
set_option maxRecDepth 100000 in
theorem zco_242 : zcoW 242 ∈ tables_1_7 := List.mem_of_getElem? (i := 182) rfl
set_option maxRecDepth 100000 in
theorem zco_241 : zcoW 241 ∈ tables_1_7 := List.mem_of_getElem? (i := 186) rfl
set_option maxRecDepth 100000 in
theorem zco_244 : zcoW 244 ∈ tables_1_7 := List.mem_of_getElem? (i := 190) rfl
set_option maxRecDepth 100000 in
theorem zco_243 : zcoW 243 ∈ tables_1_7 := List.mem_of_getElem? (i := 194) rfl
set_option maxRecDepth 100000 in
theorem zco_245 : zcoW 245 ∈ tables_1_7 := List.mem_of_getElem? (i := 198) rfl
set_option maxRecDepth 100000 in
theorem zco_246 : zcoW 246 ∈ tables_1_7 := List.mem_of_getElem? (i := 202) rfl
set_option maxRecDepth 100000 in
theorem zco_247 : zcoW 247 ∈ tables_1_7 := List.mem_of_getElem? (i := 206) rfl
set_option maxRecDepth 100000 in
theorem zco_248 : zcoW 248 ∈ tables_1_7 := List.mem_of_getElem? (i := 210) rfl
set_option maxRecDepth 100000 in
theorem zco_250 : zcoW 250 ∈ tables_1_7 := List.mem_of_getElem? (i := 214) rfl
set_option maxRecDepth 100000 in
theorem zco_249 : zcoW 249 ∈ tables_1_7 := List.mem_of_getElem? (i := 218) rfl
set_option maxRecDepth 100000 in
theorem zco_251 : zcoW 251 ∈ tables_1_7 := List.mem_of_getElem? (i := 222) rfl
set_option maxRecDepth 100000 in
theorem zco_252 : zcoW 252 ∈ tables_1_7 := List.mem_of_getElem? (i := 226) rfl
set_option maxRecDepth 100000 in
theorem zco_253 : zcoW 253 ∈ tables_1_7 := List.mem_of_getElem? (i := 231) rfl
set_option maxRecDepth 100000 in
theorem zco_257 : zcoW 257 ∈ tables_1_7 := List.mem_of_getElem? (i := 236) rfl
set_option maxRecDepth 100000 in
theorem zco_256 : zcoW 256 ∈ tables_1_8 := List.mem_of_getElem? (i := 0) rfl
set_option maxRecDepth 100000 in
theorem zco_254 : zcoW 254 ∈ tables_1_8 := List.mem_of_getElem? (i := 4) rfl
set_option maxRecDepth 100000 in
theorem zco_255 : zcoW 255 ∈ tables_1_8 := List.mem_of_getElem? (i := 8) rfl
set_option maxRecDepth 100000 in
theorem zco_258 : zcoW 258 ∈ tables_1_8 := List.mem_of_getElem? (i := 12) rfl
set_option maxRecDepth 100000 in
theorem zco_259 : zcoW 259 ∈ tables_1_8 := List.mem_of_getElem? (i := 16) rfl
set_option maxRecDepth 100000 in
theorem zco_260 : zcoW 260 ∈ tables_1_8 := List.mem_of_getElem? (i := 20) rfl
set_option maxRecDepth 100000 in
theorem zco_220 : zcoW 220 ∈ tables_1_8 := List.mem_of_getElem? (i := 24) rfl
set_option maxRecDepth 100000 in
theorem zco_217 : zcoW 217 ∈ tables_1_8 := List.mem_of_getElem? (i := 28) rfl
set_option maxRecDepth 100000 in
theorem zco_216 : zcoW 216 ∈ tables_1_8 := List.mem_of_getElem? (i := 32) rfl
set_option maxRecDepth 100000 in
theorem zco_261 : zcoW 261 ∈ tables_1_8 := List.mem_of_getElem? (i := 36) rfl
set_option maxRecDepth 100000 in
theorem zco_266 : zcoW 266 ∈ tables_1_8 := List.mem_of_getElem? (i := 40) rfl
set_option maxRecDepth 100000 in
theorem zco_262 : zcoW 262 ∈ tables_1_8 := List.mem_of_getElem? (i := 44) rfl
set_option maxRecDepth 100000 in
theorem zco_265 : zcoW 265 ∈ tables_1_8 := List.mem_of_getElem? (i := 48) rfl
set_option maxRecDepth 100000 in
theorem zco_264 : zcoW 264 ∈ tables_1_8 := List.mem_of_getElem? (i := 52) rfl
set_option maxRecDepth 100000 in
theorem zco_263 : zcoW 263 ∈ tables_1_8 := List.mem_of_getElem? (i := 56) rfl
set_option maxRecDepth 100000 in
theorem zco_267 : zcoW 267 ∈ tables_1_8 := List.mem_of_getElem? (i := 60) rfl
set_option maxRecDepth 100000 in
theorem zco_268 : zcoW 268 ∈ tables_1_8 := List.mem_of_getElem? (i := 64) rfl
set_option maxRecDepth 100000 in
theorem zco_269 : zcoW 269 ∈ tables_1_8 := List.mem_of_getElem? (i := 68) rfl
set_option maxRecDepth 100000 in
theorem zco_270 : zcoW 270 ∈ tables_1_8 := List.mem_of_getElem? (i := 72) rfl
set_option maxRecDepth 100000 in
theorem zco_271 : zcoW 271 ∈ tables_1_8 := List.mem_of_getElem? (i := 76) rfl
set_option maxRecDepth 100000 in
theorem zco_272 : zcoW 272 ∈ tables_1_8 := List.mem_of_getElem? (i := 80) rfl
set_option maxRecDepth 100000 in
theorem zco_273 : zcoW 273 ∈ tables_1_8 := List.mem_of_getElem? (i := 84) rfl
set_option maxRecDepth 100000 in
theorem zco_274 : zcoW 274 ∈ tables_1_8 := List.mem_of_getElem? (i := 88) rfl
set_option maxRecDepth 100000 in
theorem zco_275 : zcoW 275 ∈ tables_1_8 := List.mem_of_getElem? (i := 92) rfl
set_option maxRecDepth 100000 in
theorem zco_279 : zcoW 279 ∈ tables_1_8 := List.mem_of_getElem? (i := 96) rfl
set_option maxRecDepth 100000 in
theorem zco_278 : zcoW 278 ∈ tables_1_8 := List.mem_of_getElem? (i := 100) rfl
set_option maxRecDepth 100000 in
theorem zco_277 : zcoW 277 ∈ tables_1_8 := List.mem_of_getElem? (i := 104) rfl
set_option maxRecDepth 100000 in
theorem zco_276 : zcoW 276 ∈ tables_1_8 := List.mem_of_getElem? (i := 108) rfl
set_option maxRecDepth 100000 in
theorem zco_280 : zcoW 280 ∈ tables_1_8 := List.mem_of_getElem? (i := 112) rfl
set_option maxRecDepth 100000 in
theorem zco_283 : zcoW 283 ∈ tables_1_8 := List.mem_of_getElem? (i := 116) rfl
set_option maxRecDepth 100000 in
theorem zco_281 : zcoW 281 ∈ tables_1_8 := List.mem_of_getElem? (i := 120) rfl
set_option maxRecDepth 100000 in
theorem zco_282 : zcoW 282 ∈ tables_1_8 := List.mem_of_getElem? (i := 124) rfl
set_option maxRecDepth 100000 in
theorem zco_284 : zcoW 284 ∈ tables_1_8 := List.mem_of_getElem? (i := 128) rfl
set_option maxRecDepth 100000 in
theorem zco_288 : zcoW 288 ∈ tables_1_8 := List.mem_of_getElem? (i := 132) rfl
set_option maxRecDepth 100000 in
theorem zco_286 : zcoW 286 ∈ tables_1_8 := List.mem_of_getElem? (i := 137) rfl
set_option maxRecDepth 100000 in
theorem zco_287 : zcoW 287 ∈ tables_1_8 := List.mem_of_getElem? (i := 140) rfl
set_option maxRecDepth 100000 in
theorem zco_285 : zcoW 285 ∈ tables_1_8 := List.mem_of_getElem? (i := 144) rfl
set_option maxRecDepth 100000 in
theorem zco_290 : zcoW 290 ∈ tables_1_8 := List.mem_of_getElem? (i := 148) rfl
set_option maxRecDepth 100000 in
theorem zco_289 : zcoW 289 ∈ tables_1_8 := List.mem_of_getElem? (i := 152) rfl
set_option maxRecDepth 100000 in
theorem zco_291 : zcoW 291 ∈ tables_1_8 := List.mem_of_getElem? (i := 156) rfl
set_option maxRecDepth 100000 in
theorem zco_293 : zcoW 293 ∈ tables_1_8 := List.mem_of_getElem? (i := 160) rfl
set_option maxRecDepth 100000 in
theorem zco_292 : zcoW 292 ∈ tables_1_8 := List.mem_of_getElem? (i := 165) rfl
set_option maxRecDepth 100000 in
theorem zco_294 : zcoW 294 ∈ tables_1_8 := List.mem_of_getElem? (i := 169) rfl
set_option maxRecDepth 100000 in
theorem zco_298 : zcoW 298 ∈ tables_1_8 := List.mem_of_getElem? (i := 173) rfl
set_option maxRecDepth 100000 in
theorem zco_295 : zcoW 295 ∈ tables_1_8 := List.mem_of_getElem? (i := 177) rfl
set_option maxRecDepth 100000 in
theorem zco_297 : zcoW 297 ∈ tables_1_8 := List.mem_of_getElem? (i := 181) rfl
set_option maxRecDepth 100000 in
theorem zco_296 : zcoW 296 ∈ tables_1_8 := List.mem_of_getElem? (i := 185) rfl
set_option maxRecDepth 100000 in
theorem zco_300 : zcoW 300 ∈ tables_1_8 := List.mem_of_getElem? (i := 189) rfl
set_option maxRecDepth 100000 in
theorem zco_299 : zcoW 299 ∈ tables_1_8 := List.mem_of_getElem? (i := 193) rfl
set_option maxRecDepth 100000 in
theorem zco_301 : zcoW 301 ∈ tables_1_8 := List.mem_of_getElem? (i := 197) rfl
set_option maxRecDepth 100000 in
theorem zco_304 : zcoW 304 ∈ tables_1_8 := List.mem_of_getElem? (i := 201) rfl
set_option maxRecDepth 100000 in
theorem zco_303 : zcoW 303 ∈ tables_1_8 := List.mem_of_getElem? (i := 205) rfl
set_option maxRecDepth 100000 in
theorem zco_302 : zcoW 302 ∈ tables_1_8 := List.mem_of_getElem? (i := 212) rfl
set_option maxRecDepth 100000 in
theorem zco_305 : zcoW 305 ∈ tables_1_8 := List.mem_of_getElem? (i := 220) rfl
set_option maxRecDepth 100000 in
theorem zco_306 : zcoW 306 ∈ tables_1_8 := List.mem_of_getElem? (i := 225) rfl
set_option maxRecDepth 100000 in
theorem zco_307 : zcoW 307 ∈ tables_1_8 := List.mem_of_getElem? (i := 229) rfl
set_option maxRecDepth 100000 in
theorem zco_308 : zcoW 308 ∈ tables_1_8 := List.mem_of_getElem? (i := 234) rfl
set_option maxRecDepth 100000 in
theorem zco_309 : zcoW 309 ∈ tables_1_8 := List.mem_of_getElem? (i := 238) rfl
set_option maxRecDepth 100000 in
theorem zco_310 : zcoW 310 ∈ tables_1_9 := List.mem_of_getElem? (i := 2) rfl
theorem zt1_in {w : Cond} (h : w ∈ tables_1_1 ∨ w ∈ tables_1_2 ∨ w ∈ tables_1_3 ∨ w ∈ tables_1_4 ∨ w ∈ tables_1_5 ∨ w ∈ tables_1_6 ∨ w ∈ tables_1_7 ∨ w ∈ tables_1_8 ∨ w ∈ tables_1_9) : w ∈ lw_tbl := by
  unfold lw_tbl tables_1
  simp only [List.mem_append]
  exact Or.inr h
set_option maxRecDepth 100000 in
theorem zco_all : ∀ y, y < 311 → zcoW y ∈ zBIG := by
  intro y hy
  refine List.mem_filter.mpr ⟨zt1_in ?_, rfl⟩
  match y, hy with
  | 0, _ => exact Or.inr (Or.inr (Or.inr (Or.inl (zco_0))))
  | 1, _ => exact Or.inr (Or.inr (Or.inl (zco_1)))
  | 2, _ => exact Or.inr (Or.inl (zco_2))
  | 3, _ => exact Or.inr (Or.inr (Or.inr (Or.inr (Or.inl (zco_3)))))
  | 4, _ => exact Or.inr (Or.inr (Or.inl (zco_4)))
  | 5, _ => exact Or.inr (Or.inr (Or.inl (zco_5)))
  | 6, _ => exact Or.inr (Or.inr (Or.inl (zco_6)))
  | 7, _ => exact Or.inr (Or.inr (Or.inl (zco_7)))
  | 8, _ => exact Or.inr (Or.inr (Or.inl (zco_8)))
  | 9, _ => exact Or.inr (Or.inr (Or.inl (zco_9)))
  | 10, _ => exact Or.inr (Or.inr (Or.inl (zco_10)))
  | 11, _ => exact Or.inr (Or.inr (Or.inl (zco_11)))
  | 12, _ => exact Or.inr (Or.inr (Or.inr (Or.inl (zco_12))))
  | 13, _ => exact Or.inr (Or.inr (Or.inl (zco_13)))
  | 14, _ => exact Or.inr (Or.inr (Or.inl (zco_14)))
  | 15, _ => exact Or.inr (Or.inr (Or.inl (zco_15)))
  | 16, _ => exact Or.inr (Or.inr (Or.inl (zco_16)))
  | 17, _ => exact Or.inr (Or.inr (Or.inl (zco_17)))
  | 18, _ => exact Or.inr (Or.inr (Or.inr (Or.inl (zco_18))))
  | 19, _ => exact Or.inr (Or.inr (Or.inl (zco_19)))
  | 20, _ => exact Or.inr (Or.inr (Or.inr (Or.inl (zco_20))))
  | 21, _ => exact Or.inr (Or.inr (Or.inr (Or.inl (zco_21))))
  | 22, _ => exact Or.inr (Or.inr (Or.inr (Or.inl (zco_22))))
  | 23, _ => exact Or.inr (Or.inr (Or.inr (Or.inl (zco_23))))
  | 24, _ => exact Or.inr (Or.inr (Or.inr (Or.inl (zco_24))))
  | 25, _ => exact Or.inr (Or.inr (Or.inl (zco_25)))
  | 26, _ => exact Or.inr (Or.inr (Or.inr (Or.inr (Or.inl (zco_26)))))
  | 27, _ => exact Or.inr (Or.inr (Or.inl (zco_27)))
  | 28, _ => exact Or.inr (Or.inr (Or.inr (Or.inr (Or.inl (zco_28)))))
  | 29, _ => exact Or.inr (Or.inr (Or.inr (Or.inr (Or.inl (zco_29)))))
  | 30, _ => exact Or.inr (Or.inr (Or.inl (zco_30)))
  | 31, _ => exact Or.inr (Or.inr (Or.inl (zco_31)))
  | 32, _ => exact Or.inr (Or.inr (Or.inr (Or.inl (zco_32))))
  | 33, _ => exact Or.inr (Or.inl (zco_33))
  | 34, _ => exact Or.inr (Or.inr (Or.inl (zco_34)))
  | 35, _ => exact Or.inr (Or.inr (Or.inl (zco_35)))
  | 36, _ => exact Or.inr (Or.inr (Or.inr (Or.inr (Or.inl (zco_36)))))
  | 37, _ => exact Or.inr (Or.inr (Or.inl (zco_37)))
  | 38, _ => exact Or.inr (Or.inr (Or.inr (Or.inr (Or.inl (zco_38)))))
  | 39, _ => exact Or.inr (Or.inr (Or.inr (Or.inr (Or.inl (zco_39)))))
  | 40, _ => exact Or.inr (Or.inr (Or.inr (Or.inr (Or.inl (zco_40)))))
  | 41, _ => exact Or.inr (Or.inr (Or.inl (zco_41)))
  | 42, _ => exact Or.inr (Or.inr (Or.inr (Or.inr (Or.inl (zco_42)))))
  | 43, _ => exact Or.inr (Or.inr (Or.inl (zco_43)))
  | 44, _ => exact Or.inr (Or.inr (Or.inr (Or.inl (zco_44))))
  | 45, _ => exact Or.inr (Or.inr (Or.inr (Or.inr (Or.inl (zco_45)))))
  | 46, _ => exact Or.inr (Or.inr (Or.inl (zco_46)))
  | 47, _ => exact Or.inr (Or.inr (Or.inl (zco_47)))
  | 48, _ => exact Or.inr (Or.inr (Or.inr (Or.inr (Or.inl (zco_48)))))
  | 49, _ => exact Or.inr (Or.inl (zco_49))
  | 50, _ => exact Or.inr (Or.inl (zco_50))
  | 51, _ => exact Or.inr (Or.inl (zco_51))
  | 52, _ => exact Or.inr (Or.inl (zco_52))
  | 53, _ => exact Or.inr (Or.inr (Or.inl (zco_53)))
  | 54, _ => exact Or.inr (Or.inr (Or.inl (zco_54)))
  | 55, _ => exact Or.inr (Or.inr (Or.inl (zco_55)))
  | 56, _ => exact Or.inr (Or.inr (Or.inl (zco_56)))
  | 57, _ => exact Or.inr (Or.inr (Or.inl (zco_57)))
  | 58, _ => exact Or.inr (Or.inl (zco_58))
  | 59, _ => exact Or.inr (Or.inr (Or.inl (zco_59)))
  | 60, _ => exact Or.inr (Or.inr (Or.inl (zco_60)))
  | 61, _ => exact Or.inr (Or.inl (zco_61))
  | 62, _ => exact Or.inr (Or.inl (zco_62))
  | 63, _ => exact Or.inr (Or.inl (zco_63))
  | 64, _ => exact Or.inr (Or.inl (zco_64))
  | 65, _ => exact Or.inr (Or.inl (zco_65))
  | 66, _ => exact Or.inr (Or.inr (Or.inr (Or.inl (zco_66))))
  | 67, _ => exact Or.inr (Or.inr (Or.inr (Or.inl (zco_67))))
  | 68, _ => exact Or.inr (Or.inr (Or.inr (Or.inl (zco_68))))
  | 69, _ => exact Or.inr (Or.inl (zco_69))
  | 70, _ => exact Or.inr (Or.inl (zco_70))
  | 71, _ => exact Or.inr (Or.inl (zco_71))
  | 72, _ => exact Or.inr (Or.inr (Or.inl (zco_72)))
  | 73, _ => exact Or.inr (Or.inr (Or.inl (zco_73)))
  | 74, _ => exact Or.inr (Or.inr (Or.inr (Or.inl (zco_74))))
  | 75, _ => exact Or.inr (Or.inr (Or.inl (zco_75)))
  | 76, _ => exact Or.inr (Or.inr (Or.inl (zco_76)))
  | 77, _ => exact Or.inr (Or.inr (Or.inr (Or.inl (zco_77))))
  | 78, _ => exact Or.inr (Or.inr (Or.inr (Or.inl (zco_78))))
  | 79, _ => exact Or.inr (Or.inr (Or.inl (zco_79)))
  | 80, _ => exact Or.inr (Or.inr (Or.inr (Or.inl (zco_80))))
  | 81, _ => exact Or.inr (Or.inr (Or.inl (zco_81)))
  | 82, _ => exact Or.inr (Or.inr (Or.inl (zco_82)))
  | 83, _ => exact Or.inr (Or.inr (Or.inl (zco_83)))
  | 84, _ => exact Or.inr (Or.inr (Or.inl (zco_84)))
  | 85, _ => exact Or.inr (Or.inr (Or.inl (zco_85)))
  | 86, _ => exact Or.inr (Or.inr (Or.inl (zco_86)))
  | 87, _ => exact Or.inr (Or.inr (Or.inl (zco_87)))
  | 88, _ => exact Or.inr (Or.inr (Or.inr (Or.inl (zco_88))))
  | 89, _ => exact Or.inr (Or.inr (Or.inr (Or.inl (zco_89))))
  | 90, _ => exact Or.inr (Or.inr (Or.inr (Or.inl (zco_90))))
  | 91, _ => exact Or.inr (Or.inr (Or.inr (Or.inl (zco_91))))
  | 92, _ => exact Or.inr (Or.inr (Or.inr (Or.inl (zco_92))))
  | 93, _ => exact Or.inr (Or.inr (Or.inr (Or.inl (zco_93))))
  | 94, _ => exact Or.inr (Or.inr (Or.inr (Or.inl (zco_94))))
  | 95, _ => exact Or.inr (Or.inr (Or.inr (Or.inl (zco_95))))
  | 96, _ => exact Or.inr (Or.inr (Or.inr (Or.inl (zco_96))))
  | 97, _ => exact Or.inr (Or.inr (Or.inr (Or.inl (zco_97))))
  | 98, _ => exact Or.inr (Or.inr (Or.inr (Or.inl (zco_98))))
  | 99, _ => exact Or.inr (Or.inr (Or.inr (Or.inl (zco_99))))
  | 100, _ => exact Or.inr (Or.inr (Or.inr (Or.inl (zco_100))))
  | 101, _ => exact Or.inr (Or.inr (Or.inr (Or.inl (zco_101))))
  | 102, _ => exact Or.inr (Or.inr (Or.inr (Or.inl (zco_102))))
  | 103, _ => exact Or.inr (Or.inr (Or.inr (Or.inl (zco_103))))
  | 104, _ => exact Or.inr (Or.inr (Or.inr (Or.inl (zco_104))))
  | 105, _ => exact Or.inr (Or.inr (Or.inr (Or.inl (zco_105))))
  | 106, _ => exact Or.inr (Or.inr (Or.inr (Or.inl (zco_106))))
  | 107, _ => exact Or.inr (Or.inr (Or.inr (Or.inl (zco_107))))
  | 108, _ => exact Or.inr (Or.inr (Or.inr (Or.inl (zco_108))))
  | 109, _ => exact Or.inr (Or.inr (Or.inr (Or.inl (zco_109))))
  | 110, _ => exact Or.inr (Or.inr (Or.inr (Or.inl (zco_110))))
  | 111, _ => exact Or.inr (Or.inr (Or.inr (Or.inl (zco_111))))
  | 112, _ => exact Or.inr (Or.inr (Or.inr (Or.inl (zco_112))))
  | 113, _ => exact Or.inr (Or.inr (Or.inr (Or.inl (zco_113))))
  | 114, _ => exact Or.inr (Or.inr (Or.inr (Or.inl (zco_114))))
  | 115, _ => exact Or.inr (Or.inr (Or.inr (Or.inl (zco_115))))
  | 116, _ => exact Or.inr (Or.inr (Or.inr (Or.inl (zco_116))))
  | 117, _ => exact Or.inr (Or.inr (Or.inr (Or.inl (zco_117))))
  | 118, _ => exact Or.inr (Or.inr (Or.inr (Or.inl (zco_118))))
  | 119, _ => exact Or.inr (Or.inr (Or.inr (Or.inl (zco_119))))
  | 120, _ => exact Or.inr (Or.inr (Or.inr (Or.inl (zco_120))))
  | 121, _ => exact Or.inr (Or.inr (Or.inr (Or.inl (zco_121))))
  | 122, _ => exact Or.inr (Or.inr (Or.inr (Or.inl (zco_122))))
  | 123, _ => exact Or.inr (Or.inr (Or.inr (Or.inl (zco_123))))
  | 124, _ => exact Or.inr (Or.inr (Or.inr (Or.inl (zco_124))))
  | 125, _ => exact Or.inr (Or.inr (Or.inr (Or.inl (zco_125))))
  | 126, _ => exact Or.inr (Or.inr (Or.inr (Or.inl (zco_126))))
  | 127, _ => exact Or.inr (Or.inr (Or.inr (Or.inr (Or.inl (zco_127)))))
  | 128, _ => exact Or.inr (Or.inr (Or.inr (Or.inr (Or.inl (zco_128)))))
  | 129, _ => exact Or.inr (Or.inr (Or.inr (Or.inr (Or.inl (zco_129)))))
  | 130, _ => exact Or.inr (Or.inr (Or.inr (Or.inr (Or.inl (zco_130)))))
  | 131, _ => exact Or.inr (Or.inr (Or.inr (Or.inr (Or.inl (zco_131)))))
  | 132, _ => exact Or.inr (Or.inr (Or.inr (Or.inr (Or.inl (zco_132)))))
  | 133, _ => exact Or.inr (Or.inr (Or.inr (Or.inr (Or.inl (zco_133)))))
  | 134, _ => exact Or.inr (Or.inr (Or.inr (Or.inr (Or.inl (zco_134)))))
  | 135, _ => exact Or.inr (Or.inr (Or.inr (Or.inr (Or.inl (zco_135)))))
  | 136, _ => exact Or.inr (Or.inr (Or.inr (Or.inr (Or.inl (zco_136)))))
  | 137, _ => exact Or.inr (Or.inr (Or.inr (Or.inr (Or.inl (zco_137)))))
  | 138, _ => exact Or.inr (Or.inr (Or.inr (Or.inr (Or.inl (zco_138)))))
  | 139, _ => exact Or.inr (Or.inr (Or.inr (Or.inr (Or.inl (zco_139)))))
  | 140, _ => exact Or.inr (Or.inr (Or.inr (Or.inr (Or.inl (zco_140)))))
  | 141, _ => exact Or.inr (Or.inr (Or.inr (Or.inr (Or.inl (zco_141)))))
  | 142, _ => exact Or.inr (Or.inr (Or.inr (Or.inr (Or.inl (zco_142)))))
  | 143, _ => exact Or.inr (Or.inr (Or.inr (Or.inr (Or.inl (zco_143)))))
  | 144, _ => exact Or.inr (Or.inr (Or.inr (Or.inr (Or.inl (zco_144)))))
  | 145, _ => exact Or.inr (Or.inr (Or.inr (Or.inr (Or.inl (zco_145)))))
  | 146, _ => exact Or.inr (Or.inr (Or.inr (Or.inr (Or.inl (zco_146)))))
  | 147, _ => exact Or.inr (Or.inr (Or.inr (Or.inr (Or.inl (zco_147)))))
  | 148, _ => exact Or.inr (Or.inr (Or.inr (Or.inr (Or.inl (zco_148)))))
  | 149, _ => exact Or.inr (Or.inr (Or.inr (Or.inr (Or.inl (zco_149)))))
  | 150, _ => exact Or.inr (Or.inr (Or.inr (Or.inr (Or.inl (zco_150)))))
  | 151, _ => exact Or.inr (Or.inr (Or.inr (Or.inr (Or.inl (zco_151)))))
  | 152, _ => exact Or.inr (Or.inr (Or.inr (Or.inr (Or.inl (zco_152)))))
  | 153, _ => exact Or.inr (Or.inr (Or.inr (Or.inr (Or.inl (zco_153)))))
  | 154, _ => exact Or.inr (Or.inr (Or.inr (Or.inr (Or.inl (zco_154)))))
  | 155, _ => exact Or.inr (Or.inr (Or.inr (Or.inr (Or.inl (zco_155)))))
  | 156, _ => exact Or.inr (Or.inr (Or.inr (Or.inr (Or.inl (zco_156)))))
  | 157, _ => exact Or.inr (Or.inr (Or.inr (Or.inr (Or.inl (zco_157)))))
  | 158, _ => exact Or.inr (Or.inr (Or.inr (Or.inr (Or.inl (zco_158)))))
  | 159, _ => exact Or.inr (Or.inr (Or.inr (Or.inr (Or.inl (zco_159)))))
  | 160, _ => exact Or.inr (Or.inr (Or.inr (Or.inr (Or.inl (zco_160)))))
  | 161, _ => exact Or.inr (Or.inr (Or.inr (Or.inr (Or.inl (zco_161)))))
  | 162, _ => exact Or.inr (Or.inr (Or.inr (Or.inr (Or.inl (zco_162)))))
  | 163, _ => exact Or.inr (Or.inr (Or.inr (Or.inr (Or.inl (zco_163)))))
  | 164, _ => exact Or.inr (Or.inr (Or.inr (Or.inr (Or.inl (zco_164)))))
  | 165, _ => exact Or.inr (Or.inr (Or.inr (Or.inr (Or.inl (zco_165)))))
  | 166, _ => exact Or.inr (Or.inr (Or.inr (Or.inr (Or.inl (zco_166)))))
  | 167, _ => exact Or.inr (Or.inr (Or.inr (Or.inr (Or.inl (zco_167)))))
  | 168, _ => exact Or.inr (Or.inr (Or.inr (Or.inr (Or.inl (zco_168)))))
  | 169, _ => exact Or.inr (Or.inr (Or.inr (Or.inr (Or.inl (zco_169)))))
  | 170, _ => exact Or.inr (Or.inr (Or.inr (Or.inr (Or.inr (Or.inl (zco_170))))))
  | 171, _ => exact Or.inr (Or.inr (Or.inr (Or.inr (Or.inr (Or.inl (zco_171))))))
  | 172, _ => exact Or.inr (Or.inr (Or.inr (Or.inr (Or.inr (Or.inl (zco_172))))))
  | 173, _ => exact Or.inr (Or.inr (Or.inr (Or.inr (Or.inr (Or.inl (zco_173))))))
  | 174, _ => exact Or.inr (Or.inr (Or.inr (Or.inr (Or.inr (Or.inl (zco_174))))))
  | 175, _ => exact Or.inr (Or.inr (Or.inr (Or.inr (Or.inr (Or.inl (zco_175))))))
  | 176, _ => exact Or.inr (Or.inr (Or.inr (Or.inr (Or.inr (Or.inl (zco_176))))))
  | 177, _ => exact Or.inr (Or.inr (Or.inr (Or.inr (Or.inr (Or.inl (zco_177))))))
  | 178, _ => exact Or.inr (Or.inr (Or.inr (Or.inr (Or.inr (Or.inl (zco_178))))))
  | 179, _ => exact Or.inr (Or.inr (Or.inr (Or.inr (Or.inr (Or.inl (zco_179))))))
  | 180, _ => exact Or.inr (Or.inr (Or.inr (Or.inr (Or.inr (Or.inl (zco_180))))))
  | 181, _ => exact Or.inr (Or.inr (Or.inr (Or.inr (Or.inr (Or.inl (zco_181))))))
  | 182, _ => exact Or.inr (Or.inr (Or.inr (Or.inr (Or.inr (Or.inl (zco_182))))))
  | 183, _ => exact Or.inr (Or.inr (Or.inr (Or.inr (Or.inr (Or.inl (zco_183))))))
  | 184, _ => exact Or.inr (Or.inr (Or.inr (Or.inr (Or.inr (Or.inl (zco_184))))))
  | 185, _ => exact Or.inr (Or.inr (Or.inr (Or.inr (Or.inr (Or.inl (zco_185))))))
  | 186, _ => exact Or.inr (Or.inr (Or.inr (Or.inr (Or.inr (Or.inl (zco_186))))))
  | 187, _ => exact Or.inr (Or.inr (Or.inr (Or.inr (Or.inr (Or.inl (zco_187))))))
  | 188, _ => exact Or.inr (Or.inr (Or.inr (Or.inr (Or.inr (Or.inr (Or.inl (zco_188)))))))
  | 189, _ => exact Or.inr (Or.inr (Or.inr (Or.inr (Or.inr (Or.inl (zco_189))))))
  | 190, _ => exact Or.inr (Or.inr (Or.inr (Or.inr (Or.inr (Or.inr (Or.inl (zco_190)))))))
  | 191, _ => exact Or.inr (Or.inr (Or.inr (Or.inr (Or.inr (Or.inl (zco_191))))))
  | 192, _ => exact Or.inr (Or.inr (Or.inr (Or.inr (Or.inr (Or.inr (Or.inl (zco_192)))))))
  | 193, _ => exact Or.inr (Or.inr (Or.inr (Or.inr (Or.inr (Or.inl (zco_193))))))
  | 194, _ => exact Or.inr (Or.inr (Or.inr (Or.inr (Or.inr (Or.inr (Or.inl (zco_194)))))))
  | 195, _ => exact Or.inr (Or.inr (Or.inr (Or.inr (Or.inr (Or.inr (Or.inl (zco_195)))))))
  | 196, _ => exact Or.inr (Or.inr (Or.inr (Or.inr (Or.inr (Or.inl (zco_196))))))
  | 197, _ => exact Or.inr (Or.inr (Or.inr (Or.inr (Or.inr (Or.inl (zco_197))))))
  | 198, _ => exact Or.inr (Or.inr (Or.inr (Or.inr (Or.inr (Or.inl (zco_198))))))
  | 199, _ => exact Or.inr (Or.inr (Or.inr (Or.inr (Or.inr (Or.inl (zco_199))))))
  | 200, _ => exact Or.inr (Or.inr (Or.inr (Or.inr (Or.inr (Or.inr (Or.inl (zco_200)))))))
  | 201, _ => exact Or.inr (Or.inr (Or.inr (Or.inr (Or.inr (Or.inr (Or.inl (zco_201)))))))
  | 202, _ => exact Or.inr (Or.inr (Or.inr (Or.inr (Or.inr (Or.inr (Or.inl (zco_202)))))))
  | 203, _ => exact Or.inr (Or.inr (Or.inr (Or.inr (Or.inr (Or.inr (Or.inl (zco_203)))))))
  | 204, _ => exact Or.inr (Or.inr (Or.inr (Or.inr (Or.inr (Or.inr (Or.inl (zco_204)))))))
  | 205, _ => exact Or.inr (Or.inr (Or.inr (Or.inr (Or.inr (Or.inr (Or.inl (zco_205)))))))
  | 206, _ => exact Or.inr (Or.inr (Or.inr (Or.inr (Or.inr (Or.inr (Or.inl (zco_206)))))))
  | 207, _ => exact Or.inr (Or.inr (Or.inr (Or.inr (Or.inr (Or.inr (Or.inl (zco_207)))))))
  | 208, _ => exact Or.inr (Or.inr (Or.inr (Or.inr (Or.inr (Or.inr (Or.inl (zco_208)))))))
  | 209, _ => exact Or.inr (Or.inr (Or.inr (Or.inr (Or.inr (Or.inr (Or.inl (zco_209)))))))
  | 210, _ => exact Or.inr (Or.inr (Or.inr (Or.inr (Or.inr (Or.inr (Or.inl (zco_210)))))))
  | 211, _ => exact Or.inr (Or.inr (Or.inr (Or.inr (Or.inr (Or.inr (Or.inl (zco_211)))))))
  | 212, _ => exact Or.inr (Or.inr (Or.inr (Or.inr (Or.inr (Or.inr (Or.inl (zco_212)))))))
  | 213, _ => exact Or.inr (Or.inr (Or.inr (Or.inr (Or.inr (Or.inr (Or.inl (zco_213)))))))
  | 214, _ => exact Or.inr (Or.inr (Or.inr (Or.inr (Or.inr (Or.inr (Or.inl (zco_214)))))))
  | 215, _ => exact Or.inr (Or.inr (Or.inr (Or.inr (Or.inr (Or.inr (Or.inl (zco_215)))))))
  | 216, _ => exact Or.inr (Or.inr (Or.inr (Or.inr (Or.inr (Or.inr (Or.inr (Or.inl (zco_216))))))))
  | 217, _ => exact Or.inr (Or.inr (Or.inr (Or.inr (Or.inr (Or.inr (Or.inr (Or.inl (zco_217))))))))
  | 218, _ => exact Or.inr (Or.inr (Or.inr (Or.inr (Or.inr (Or.inr (Or.inl (zco_218)))))))
  | 219, _ => exact Or.inr (Or.inr (Or.inr (Or.inr (Or.inr (Or.inr (Or.inl (zco_219)))))))
  | 220, _ => exact Or.inr (Or.inr (Or.inr (Or.inr (Or.inr (Or.inr (Or.inr (Or.inl (zco_220))))))))
  | 221, _ => exact Or.inr (Or.inr (Or.inr (Or.inr (Or.inr (Or.inr (Or.inl (zco_221)))))))
  | 222, _ => exact Or.inr (Or.inr (Or.inr (Or.inr (Or.inr (Or.inr (Or.inl (zco_222)))))))
  | 223, _ => exact Or.inr (Or.inr (Or.inr (Or.inr (Or.inr (Or.inr (Or.inl (zco_223)))))))
  | 224, _ => exact Or.inr (Or.inr (Or.inr (Or.inr (Or.inr (Or.inr (Or.inl (zco_224)))))))
  | 225, _ => exact Or.inr (Or.inr (Or.inr (Or.inr (Or.inr (Or.inr (Or.inl (zco_225)))))))
  | 226, _ => exact Or.inr (Or.inr (Or.inr (Or.inr (Or.inr (Or.inr (Or.inl (zco_226)))))))
  | 227, _ => exact Or.inr (Or.inr (Or.inr (Or.inr (Or.inr (Or.inr (Or.inl (zco_227)))))))
  | 228, _ => exact Or.inr (Or.inr (Or.inr (Or.inr (Or.inr (Or.inr (Or.inl (zco_228)))))))
  | 229, _ => exact Or.inr (Or.inr (Or.inr (Or.inr (Or.inr (Or.inr (Or.inl (zco_229)))))))
  | 230, _ => exact Or.inr (Or.inr (Or.inr (Or.inr (Or.inr (Or.inr (Or.inl (zco_230)))))))
  | 231, _ => exact Or.inr (Or.inr (Or.inr (Or.inr (Or.inr (Or.inr (Or.inl (zco_231)))))))
  | 232, _ => exact Or.inr (Or.inr (Or.inr (Or.inr (Or.inr (Or.inr (Or.inl (zco_232)))))))
  | 233, _ => exact Or.inr (Or.inr (Or.inr (Or.inr (Or.inr (Or.inr (Or.inl (zco_233)))))))
  | 234, _ => exact Or.inr (Or.inr (Or.inr (Or.inr (Or.inr (Or.inr (Or.inl (zco_234)))))))
  | 235, _ => exact Or.inr (Or.inr (Or.inr (Or.inr (Or.inr (Or.inr (Or.inl (zco_235)))))))
  | 236, _ => exact Or.inr (Or.inr (Or.inr (Or.inr (Or.inr (Or.inr (Or.inl (zco_236)))))))
  | 237, _ => exact Or.inr (Or.inr (Or.inr (Or.inr (Or.inr (Or.inr (Or.inl (zco_237)))))))
  | 238, _ => exact Or.inr (Or.inr (Or.inr (Or.inr (Or.inr (Or.inr (Or.inl (zco_238)))))))
  | 239, _ => exact Or.inr (Or.inr (Or.inr (Or.inr (Or.inr (Or.inr (Or.inl (zco_239)))))))
  | 240, _ => exact Or.inr (Or.inr (Or.inr (Or.inr (Or.inr (Or.inr (Or.inl (zco_240)))))))
  | 241, _ => exact Or.inr (Or.inr (Or.inr (Or.inr (Or.inr (Or.inr (Or.inl (zco_241)))))))
  | 242, _ => exact Or.inr (Or.inr (Or.inr (Or.inr (Or.inr (Or.inr (Or.inl (zco_242)))))))
  | 243, _ => exact Or.inr (Or.inr (Or.inr (Or.inr (Or.inr (Or.inr (Or.inl (zco_243)))))))
  | 244, _ => exact Or.inr (Or.inr (Or.inr (Or.inr (Or.inr (Or.inr (Or.inl (zco_244)))))))
  | 245, _ => exact Or.inr (Or.inr (Or.inr (Or.inr (Or.inr (Or.inr (Or.inl (zco_245)))))))
  | 246, _ => exact Or.inr (Or.inr (Or.inr (Or.inr (Or.inr (Or.inr (Or.inl (zco_246)))))))
  | 247, _ => exact Or.inr (Or.inr (Or.inr (Or.inr (Or.inr (Or.inr (Or.inl (zco_247)))))))
  | 248, _ => exact Or.inr (Or.inr (Or.inr (Or.inr (Or.inr (Or.inr (Or.inl (zco_248)))))))
  | 249, _ => exact Or.inr (Or.inr (Or.inr (Or.inr (Or.inr (Or.inr (Or.inl (zco_249)))))))
  | 250, _ => exact Or.inr (Or.inr (Or.inr (Or.inr (Or.inr (Or.inr (Or.inl (zco_250)))))))
  | 251, _ => exact Or.inr (Or.inr (Or.inr (Or.inr (Or.inr (Or.inr (Or.inl (zco_251)))))))
  | 252, _ => exact Or.inr (Or.inr (Or.inr (Or.inr (Or.inr (Or.inr (Or.inl (zco_252)))))))
  | 253, _ => exact Or.inr (Or.inr (Or.inr (Or.inr (Or.inr (Or.inr (Or.inl (zco_253)))))))
  | 254, _ => exact Or.inr (Or.inr (Or.inr (Or.inr (Or.inr (Or.inr (Or.inr (Or.inl (zco_254))))))))
  | 255, _ => exact Or.inr (Or.inr (Or.inr (Or.inr (Or.inr (Or.inr (Or.inr (Or.inl (zco_255))))))))
  | 256, _ => exact Or.inr (Or.inr (Or.inr (Or.inr (Or.inr (Or.inr (Or.inr (Or.inl (zco_256))))))))
  | 257, _ => exact Or.inr (Or.inr (Or.inr (Or.inr (Or.inr (Or.inr (Or.inl (zco_257)))))))
  | 258, _ => exact Or.inr (Or.inr (Or.inr (Or.inr (Or.inr (Or.inr (Or.inr (Or.inl (zco_258))))))))
  | 259, _ => exact Or.inr (Or.inr (Or.inr (Or.inr (Or.inr (Or.inr (Or.inr (Or.inl (zco_259))))))))
  | 260, _ => exact Or.inr (Or.inr (Or.inr (Or.inr (Or.inr (Or.inr (Or.inr (Or.inl (zco_260))))))))
  | 261, _ => exact Or.inr (Or.inr (Or.inr (Or.inr (Or.inr (Or.inr (Or.inr (Or.inl (zco_261))))))))
  | 262, _ => exact Or.inr (Or.inr (Or.inr (Or.inr (Or.inr (Or.inr (Or.inr (Or.inl (zco_262))))))))
  | 263, _ => exact Or.inr (Or.inr (Or.inr (Or.inr (Or.inr (Or.inr (Or.inr (Or.inl (zco_263))))))))
  | 264, _ => exact Or.inr (Or.inr (Or.inr (Or.inr (Or.inr (Or.inr (Or.inr (Or.inl (zco_264))))))))
  | 265, _ => exact Or.inr (Or.inr (Or.inr (Or.inr (Or.inr (Or.inr (Or.inr (Or.inl (zco_265))))))))
  | 266, _ => exact Or.inr (Or.inr (Or.inr (Or.inr (Or.inr (Or.inr (Or.inr (Or.inl (zco_266))))))))
  | 267, _ => exact Or.inr (Or.inr (Or.inr (Or.inr (Or.inr (Or.inr (Or.inr (Or.inl (zco_267))))))))
  | 268, _ => exact Or.inr (Or.inr (Or.inr (Or.inr (Or.inr (Or.inr (Or.inr (Or.inl (zco_268))))))))
  | 269, _ => exact Or.inr (Or.inr (Or.inr (Or.inr (Or.inr (Or.inr (Or.inr (Or.inl (zco_269))))))))
  | 270, _ => exact Or.inr (Or.inr (Or.inr (Or.inr (Or.inr (Or.inr (Or.inr (Or.inl (zco_270))))))))
  | 271, _ => exact Or.inr (Or.inr (Or.inr (Or.inr (Or.inr (Or.inr (Or.inr (Or.inl (zco_271))))))))
  | 272, _ => exact Or.inr (Or.inr (Or.inr (Or.inr (Or.inr (Or.inr (Or.inr (Or.inl (zco_272))))))))
  | 273, _ => exact Or.inr (Or.inr (Or.inr (Or.inr (Or.inr (Or.inr (Or.inr (Or.inl (zco_273))))))))
  | 274, _ => exact Or.inr (Or.inr (Or.inr (Or.inr (Or.inr (Or.inr (Or.inr (Or.inl (zco_274))))))))
  | 275, _ => exact Or.inr (Or.inr (Or.inr (Or.inr (Or.inr (Or.inr (Or.inr (Or.inl (zco_275))))))))
  | 276, _ => exact Or.inr (Or.inr (Or.inr (Or.inr (Or.inr (Or.inr (Or.inr (Or.inl (zco_276))))))))
  | 277, _ => exact Or.inr (Or.inr (Or.inr (Or.inr (Or.inr (Or.inr (Or.inr (Or.inl (zco_277))))))))
  | 278, _ => exact Or.inr (Or.inr (Or.inr (Or.inr (Or.inr (Or.inr (Or.inr (Or.inl (zco_278))))))))
  | 279, _ => exact Or.inr (Or.inr (Or.inr (Or.inr (Or.inr (Or.inr (Or.inr (Or.inl (zco_279))))))))
  | 280, _ => exact Or.inr (Or.inr (Or.inr (Or.inr (Or.inr (Or.inr (Or.inr (Or.inl (zco_280))))))))
  | 281, _ => exact Or.inr (Or.inr (Or.inr (Or.inr (Or.inr (Or.inr (Or.inr (Or.inl (zco_281))))))))
  | 282, _ => exact Or.inr (Or.inr (Or.inr (Or.inr (Or.inr (Or.inr (Or.inr (Or.inl (zco_282))))))))
  | 283, _ => exact Or.inr (Or.inr (Or.inr (Or.inr (Or.inr (Or.inr (Or.inr (Or.inl (zco_283))))))))
  | 284, _ => exact Or.inr (Or.inr (Or.inr (Or.inr (Or.inr (Or.inr (Or.inr (Or.inl (zco_284))))))))
  | 285, _ => exact Or.inr (Or.inr (Or.inr (Or.inr (Or.inr (Or.inr (Or.inr (Or.inl (zco_285))))))))
  | 286, _ => exact Or.inr (Or.inr (Or.inr (Or.inr (Or.inr (Or.inr (Or.inr (Or.inl (zco_286))))))))
  | 287, _ => exact Or.inr (Or.inr (Or.inr (Or.inr (Or.inr (Or.inr (Or.inr (Or.inl (zco_287))))))))
  | 288, _ => exact Or.inr (Or.inr (Or.inr (Or.inr (Or.inr (Or.inr (Or.inr (Or.inl (zco_288))))))))
  | 289, _ => exact Or.inr (Or.inr (Or.inr (Or.inr (Or.inr (Or.inr (Or.inr (Or.inl (zco_289))))))))
  | 290, _ => exact Or.inr (Or.inr (Or.inr (Or.inr (Or.inr (Or.inr (Or.inr (Or.inl (zco_290))))))))
  | 291, _ => exact Or.inr (Or.inr (Or.inr (Or.inr (Or.inr (Or.inr (Or.inr (Or.inl (zco_291))))))))
  | 292, _ => exact Or.inr (Or.inr (Or.inr (Or.inr (Or.inr (Or.inr (Or.inr (Or.inl (zco_292))))))))
  | 293, _ => exact Or.inr (Or.inr (Or.inr (Or.inr (Or.inr (Or.inr (Or.inr (Or.inl (zco_293))))))))
  | 294, _ => exact Or.inr (Or.inr (Or.inr (Or.inr (Or.inr (Or.inr (Or.inr (Or.inl (zco_294))))))))
  | 295, _ => exact Or.inr (Or.inr (Or.inr (Or.inr (Or.inr (Or.inr (Or.inr (Or.inl (zco_295))))))))
  | 296, _ => exact Or.inr (Or.inr (Or.inr (Or.inr (Or.inr (Or.inr (Or.inr (Or.inl (zco_296))))))))
  | 297, _ => exact Or.inr (Or.inr (Or.inr (Or.inr (Or.inr (Or.inr (Or.inr (Or.inl (zco_297))))))))
  | 298, _ => exact Or.inr (Or.inr (Or.inr (Or.inr (Or.inr (Or.inr (Or.inr (Or.inl (zco_298))))))))
  | 299, _ => exact Or.inr (Or.inr (Or.inr (Or.inr (Or.inr (Or.inr (Or.inr (Or.inl (zco_299))))))))
  | 300, _ => exact Or.inr (Or.inr (Or.inr (Or.inr (Or.inr (Or.inr (Or.inr (Or.inl (zco_300))))))))
  | 301, _ => exact Or.inr (Or.inr (Or.inr (Or.inr (Or.inr (Or.inr (Or.inr (Or.inl (zco_301))))))))
  | 302, _ => exact Or.inr (Or.inr (Or.inr (Or.inr (Or.inr (Or.inr (Or.inr (Or.inl (zco_302))))))))
  | 303, _ => exact Or.inr (Or.inr (Or.inr (Or.inr (Or.inr (Or.inr (Or.inr (Or.inl (zco_303))))))))
  | 304, _ => exact Or.inr (Or.inr (Or.inr (Or.inr (Or.inr (Or.inr (Or.inr (Or.inl (zco_304))))))))
  | 305, _ => exact Or.inr (Or.inr (Or.inr (Or.inr (Or.inr (Or.inr (Or.inr (Or.inl (zco_305))))))))
  | 306, _ => exact Or.inr (Or.inr (Or.inr (Or.inr (Or.inr (Or.inr (Or.inr (Or.inl (zco_306))))))))
  | 307, _ => exact Or.inr (Or.inr (Or.inr (Or.inr (Or.inr (Or.inr (Or.inr (Or.inl (zco_307))))))))
  | 308, _ => exact Or.inr (Or.inr (Or.inr (Or.inr (Or.inr (Or.inr (Or.inr (Or.inl (zco_308))))))))
  | 309, _ => exact Or.inr (Or.inr (Or.inr (Or.inr (Or.inr (Or.inr (Or.inr (Or.inl (zco_309))))))))
  | 310, _ => exact Or.inr (Or.inr (Or.inr (Or.inr (Or.inr (Or.inr (Or.inr (Or.inr (zco_310))))))))
  | n + 311, h => exact absurd h (by omega)
