/-! PRINTED: links, and every method's code checked -/
def gFL_0 : List (Nat × Nat × Nat) := [(1, 49, 6), (1, 58, 512), (1, 62, 513), (6, 11, 256), (10, 11, 512), (1, 76, 10), (1, 14, 0), (1, 86, 65), (2, 7, 65), (2, 19, 64), (1, 24, 2), (1, 53, 7), (1, 103, 132), (1, 106, 133), (1, 31, 3), (1, 38, 4), (1, 69, 8), (1, 114, 515), (4, 12, 128), (4, 44, 196), (4, 47, 192), (4, 26, 131), (10, 20, 513), (10, 29, 514), (7, 14, 320), (7, 20, 321), (7, 23, 322), (5, 28, 65), (5, 39, 64), (5, 24, 196), (5, 9, 192), (5, 15, 193), (5, 18, 194), (5, 21, 195), (4, 58, 195), (4, 94, 514), (4, 102, 513), (4, 197, 193), (10, 33, 515), (10, 55, 320), (10, 65, 321), (10, 68, 322), (8, 9, 387), (8, 21, 384), (10, 71, 579), (4, 18, 129), (4, 158, 580), (4, 22, 130), (4, 200, 576), (4, 203, 64), (11, 9, 576), (11, 31, 582), (11, 25, 580), (11, 28, 581), (4, 184, 581), (4, 235, 515), (11, 15, 577), (4, 265, 194), (4, 238, 320), (4, 250, 321), (4, 253, 322), (8, 25, 385), (8, 28, 386), (1, 80, 11)]
def gFL_1 : List (Nat × Nat × Nat) := [(1, 83, 12), (1, 120, 320), (1, 126, 387), (1, 131, 321), (1, 134, 322), (1, 137, 323), (1, 140, 324), (1, 143, 258), (1, 148, 582), (11, 34, 583), (11, 37, 584), (11, 18, 578), (11, 44, 586), (11, 47, 587), (11, 40, 585), (1, 160, 580), (1, 163, 576), (1, 166, 577), (1, 172, 578), (1, 42, 5), (1, 211, 384), (1, 214, 385), (1, 217, 386), (6, 21, 258), (6, 17, 257), (7, 26, 323), (7, 30, 324), (1, 259, 653), (10, 42, 324), (12, 52, 655), (12, 21, 643), (12, 65, 653), (12, 76, 582), (12, 69, 654), (12, 87, 320), (12, 15, 641), (12, 18, 642), (12, 9, 640), (12, 101, 321), (12, 103, 387), (12, 108, 384), (12, 111, 385), (12, 122, 386), (12, 125, 323), (12, 128, 576), (12, 135, 322), (12, 24, 644), (12, 27, 645), (12, 56, 656), (12, 30, 646), (12, 49, 652), (12, 180, 586), (12, 183, 584), (12, 172, 583), (12, 186, 578), (1, 269, 583), (1, 276, 644), (1, 288, 649), (1, 291, 648), (1, 294, 647), (12, 59, 657), (12, 33, 647), (12, 36, 648), (12, 218, 577)]
def gFL_2 : List (Nat × Nat × Nat) := [(12, 39, 649), (1, 313, 642), (9, 33, 653), (9, 29, 580), (9, 32, 581), (9, 39, 642), (9, 9, 448), (9, 42, 582), (1, 333, 452), (1, 337, 451), (9, 15, 449), (9, 19, 450), (9, 25, 452), (1, 343, 448), (1, 346, 641), (1, 73, 9), (1, 364, 650), (1, 367, 651), (12, 62, 658), (12, 43, 650), (12, 46, 651), (1, 18, 1), (1, 370, 514), (1, 403, 579), (1, 409, 64), (14, 139, 704), (14, 142, 718), (14, 47, 720), (14, 258, 723), (14, 62, 726), (14, 56, 724), (14, 59, 725), (14, 16, 708), (14, 65, 727), (14, 22, 710), (14, 28, 712), (14, 53, 722), (14, 75, 733), (14, 72, 732), (14, 69, 731), (14, 188, 728), (14, 191, 729), (14, 194, 730), (14, 78, 734), (14, 247, 736), (14, 250, 737), (14, 244, 738), (14, 349, 740), (14, 84, 739), (14, 87, 741), (14, 90, 742), (14, 369, 745), (14, 363, 743), (14, 366, 744), (14, 394, 747), (14, 93, 746), (14, 50, 721), (14, 412, 754), (14, 433, 750), (14, 436, 751), (14, 452, 719), (14, 19, 709), (14, 25, 711), (14, 31, 713)]
def gFL_3 : List (Nat × Nat × Nat) := [(14, 7, 706), (14, 13, 707), (14, 34, 714), (14, 38, 715), (14, 41, 716), (14, 44, 717), (14, 403, 753), (14, 406, 752), (14, 400, 756), (14, 415, 758), (14, 423, 755), (14, 428, 757), (14, 130, 759), (14, 97, 748), (14, 101, 749), (14, 527, 761), (14, 133, 760)]
def gFL : List (Nat × Nat × Nat) := gFL_0 ++ (gFL_1 ++ (gFL_2 ++ (gFL_3)))
def gFP_0 : List (Nat × Bool × Nat × Nat) := [(1, true, 14, 0), (1, true, 18, 1), (1, true, 24, 2), (1, true, 31, 3), (1, true, 38, 4), (1, true, 42, 5), (1, true, 49, 6), (1, true, 53, 7), (1, true, 69, 8), (1, true, 73, 9), (1, true, 76, 10), (1, true, 80, 11), (1, true, 83, 12), (2, true, 7, 65), (2, true, 19, 64), (4, true, 12, 128), (4, true, 18, 129), (4, true, 22, 130), (4, true, 26, 131), (4, true, 29, 132), (4, true, 32, 133), (5, true, 9, 192), (5, true, 15, 193), (5, true, 18, 194), (5, true, 21, 195), (5, true, 24, 196), (6, true, 11, 256), (6, true, 17, 257), (6, true, 21, 258), (7, true, 14, 320), (7, true, 20, 321), (7, true, 23, 322), (7, true, 26, 323), (7, true, 30, 324), (8, true, 9, 387), (8, true, 21, 384), (8, true, 25, 385), (8, true, 28, 386), (9, true, 9, 448), (9, true, 15, 449), (9, true, 19, 450), (9, true, 22, 451), (9, true, 25, 452), (10, true, 11, 512), (10, true, 20, 513), (10, true, 29, 514), (10, true, 33, 515), (11, true, 9, 576), (11, true, 15, 577), (11, true, 18, 578), (11, true, 21, 579), (11, true, 25, 580), (11, true, 28, 581), (11, true, 31, 582), (11, true, 34, 583), (11, true, 37, 584), (11, true, 40, 585), (11, true, 44, 586), (11, true, 47, 587), (12, true, 9, 640), (12, true, 15, 641), (12, true, 18, 642), (12, true, 21, 643), (12, true, 24, 644)]
def gFP_1 : List (Nat × Bool × Nat × Nat) := [(12, true, 27, 645), (12, true, 30, 646), (12, true, 33, 647), (12, true, 36, 648), (12, true, 39, 649), (12, true, 43, 650), (12, true, 46, 651), (12, true, 49, 652), (12, true, 52, 655), (12, true, 56, 656), (12, true, 59, 657), (12, true, 62, 658), (12, true, 65, 653), (12, true, 69, 654), (2, false, 7, 65), (1, false, 80, 11), (1, false, 83, 12), (1, false, 49, 6), (1, false, 53, 7), (1, false, 76, 10), (4, false, 26, 131), (4, false, 29, 132), (4, false, 32, 133), (10, false, 33, 515), (7, false, 33, 387), (7, false, 26, 323), (7, false, 30, 324), (5, false, 24, 196), (4, false, 22, 130), (4, false, 178, 579), (11, false, 25, 580), (11, false, 28, 581), (11, false, 31, 582), (11, false, 40, 585), (4, false, 235, 515), (11, false, 34, 583), (11, false, 37, 584), (4, false, 256, 323), (4, false, 259, 324), (8, false, 9, 387), (6, false, 21, 258), (9, false, 15, 449), (9, false, 19, 450), (12, false, 52, 655), (11, false, 44, 586), (11, false, 47, 587), (6, false, 17, 257), (1, false, 137, 323), (1, false, 140, 324), (12, false, 65, 653), (12, false, 69, 654), (12, false, 56, 656), (12, false, 59, 657), (12, false, 62, 658), (12, false, 49, 652), (12, false, 39, 649), (9, false, 22, 451), (9, false, 25, 452), (12, false, 43, 650), (12, false, 46, 651), (14, true, 7, 706), (14, true, 13, 707), (14, true, 16, 708), (14, true, 19, 709)]
def gFP_2 : List (Nat × Bool × Nat × Nat) := [(14, true, 22, 710), (14, true, 25, 711), (14, true, 28, 712), (14, true, 31, 713), (14, true, 34, 714), (14, true, 38, 715), (14, true, 41, 716), (14, true, 44, 717), (14, true, 47, 720), (14, true, 50, 721), (14, true, 53, 722), (14, true, 56, 724), (14, true, 59, 725), (14, true, 62, 726), (14, true, 65, 727), (14, true, 69, 731), (14, true, 72, 732), (14, true, 75, 733), (14, true, 78, 734), (14, true, 81, 735), (14, true, 84, 739), (14, true, 87, 741), (14, true, 90, 742), (14, true, 93, 746), (14, true, 97, 748), (14, true, 101, 749), (14, true, 130, 759), (14, true, 133, 760), (14, false, 136, 705), (14, false, 139, 704), (14, false, 258, 723), (14, false, 188, 728), (14, false, 191, 729), (14, false, 194, 730), (14, false, 244, 738), (14, false, 247, 736), (14, false, 250, 737), (14, false, 349, 740), (14, false, 363, 743), (14, false, 366, 744), (14, false, 369, 745), (14, false, 394, 747), (14, false, 400, 756), (14, false, 403, 753), (14, false, 433, 750), (14, false, 452, 719), (14, false, 97, 748), (14, false, 101, 749), (14, false, 142, 718), (14, false, 406, 752), (14, false, 412, 754), (14, false, 415, 758), (14, false, 423, 755), (14, false, 428, 757), (14, false, 436, 751), (14, false, 527, 761)]
def gFP : List (Nat × Bool × Nat × Nat) := gFP_0 ++ (gFP_1 ++ (gFP_2))
def gML_0 : List (Nat × Nat × Nat) := [(0, 9, 1), (0, 12, 188), (0, 13, 13), (0, 17, 189), (0, 18, 14), (0, 22, 276), (0, 23, 17), (0, 27, 278), (0, 28, 81), (0, 31, 306), (0, 32, 82), (0, 35, 190), (0, 36, 83), (0, 40, 193), (0, 41, 89), (0, 45, 207), (0, 46, 90), (0, 49, 214), (0, 50, 92), (0, 53, 216), (0, 54, 94), (0, 57, 209), (0, 58, 97), (0, 61, 211), (0, 62, 98), (0, 66, 217), (0, 67, 101), (0, 70, 221), (0, 71, 108), (0, 74, 224), (0, 75, 111), (0, 78, 226), (0, 79, 113), (0, 82, 227), (0, 83, 114), (0, 86, 228), (0, 87, 115), (0, 90, 230), (0, 91, 116), (0, 94, 231), (0, 95, 118), (0, 98, 232), (0, 99, 120), (0, 102, 233), (0, 103, 140), (0, 106, 251), (0, 107, 146), (0, 110, 257), (0, 111, 151), (0, 114, 259), (0, 115, 155), (0, 118, 265), (0, 119, 159), (0, 122, 262), (0, 123, 164), (0, 126, 264), (0, 127, 165), (0, 130, 266), (0, 131, 167), (0, 134, 267), (0, 135, 169), (0, 139, 268), (0, 140, 173), (0, 143, 271)]
def gML_1 : List (Nat × Nat × Nat) := [(0, 144, 174), (0, 147, 272), (0, 148, 178), (0, 151, 274), (0, 152, 179), (0, 155, 275), (0, 156, 181), (0, 159, 307), (0, 160, 187), (0, 163, 314), (1, 11, 2), (1, 23, 4), (1, 30, 6), (1, 37, 9), (1, 48, 10), (1, 66, 12), (2, 13, 3), (4, 11, 5), (6, 24, 7), (7, 11, 8), (8, 15, 3), (10, 19, 7), (10, 26, 2), (10, 37, 11), (1, 89, 15), (2, 23, 16), (1, 92, 18), (1, 96, 19), (1, 100, 22), (1, 109, 77), (1, 110, 78), (1, 111, 79), (1, 117, 80), (4, 35, 20), (4, 40, 23), (4, 50, 31), (10, 38, 21), (10, 41, 22), (5, 33, 24), (5, 42, 25), (5, 46, 29), (5, 50, 26), (5, 54, 27), (5, 57, 30), (5, 60, 28), (4, 54, 32), (4, 61, 35), (4, 65, 38), (4, 68, 41), (4, 72, 42), (4, 76, 9001), (4, 82, 9002), (4, 86, 43), (4, 90, 59), (4, 98, 73), (4, 106, 75), (4, 166, 33), (4, 169, 34), (4, 172, 36), (1, 419, 9001), (1, 423, 9002), (1, 427, 28), (10, 59, 37), (4, 175, 39)]
def gML_2 : List (Nat × Nat × Nat) := [(4, 134, 40), (10, 49, 24), (4, 130, 44), (4, 138, 47), (4, 142, 52), (4, 146, 53), (4, 150, 55), (4, 154, 57), (4, 163, 58), (4, 190, 45), (4, 187, 46), (4, 193, 48), (11, 63, 49), (11, 67, 50), (13, 13, 51), (4, 208, 54), (4, 181, 56), (4, 211, 60), (4, 214, 63), (4, 217, 64), (4, 221, 67), (4, 225, 68), (4, 229, 62), (4, 232, 71), (11, 73, 48), (11, 77, 61), (11, 80, 62), (11, 83, 65), (11, 50, 66), (11, 56, 69), (11, 60, 70), (11, 87, 72), (4, 262, 74), (4, 268, 16), (4, 244, 76), (8, 31, 37), (1, 144, 56), (1, 153, 84), (11, 115, 85), (11, 104, 86), (11, 108, 87), (11, 112, 88), (11, 98, 24), (11, 101, 3), (1, 156, 54), (1, 169, 85), (1, 175, 86), (1, 179, 87), (1, 183, 88), (1, 186, 91), (1, 190, 93), (1, 194, 95), (11, 118, 96), (11, 95, 93), (1, 198, 45), (1, 202, 61), (1, 205, 99), (1, 209, 100), (1, 220, 102), (1, 223, 103), (1, 226, 37), (1, 230, 104), (1, 233, 76), (1, 412, 105)]
def gML_3 : List (Nat × Nat × Nat) := [(6, 25, 106), (7, 36, 107), (8, 39, 24), (1, 237, 109), (1, 415, 110), (8, 35, 100), (1, 241, 112), (1, 244, 117), (1, 248, 119), (1, 252, 121), (1, 255, 128), (1, 263, 130), (1, 266, 122), (1, 397, 123), (1, 358, 124), (10, 45, 56), (12, 73, 125), (12, 81, 50), (12, 93, 126), (12, 97, 127), (12, 114, 93), (12, 118, 72), (12, 131, 65), (1, 355, 129), (12, 142, 131), (12, 145, 134), (12, 148, 135), (12, 152, 136), (12, 156, 139), (12, 138, 132), (11, 91, 133), (12, 159, 137), (12, 175, 138), (1, 272, 141), (12, 162, 142), (12, 166, 144), (12, 169, 145), (12, 189, 143), (12, 192, 3), (1, 273, 131), (1, 279, 147), (1, 282, 149), (12, 195, 148), (12, 199, 150), (1, 285, 152), (1, 297, 150), (12, 208, 153), (12, 211, 133), (12, 215, 154), (12, 221, 69), (12, 224, 70), (1, 300, 156), (12, 227, 157), (12, 231, 158), (1, 304, 160), (1, 307, 162), (1, 310, 163), (12, 234, 152), (12, 237, 161), (1, 316, 72), (1, 320, 166), (1, 323, 168), (1, 327, 170), (1, 330, 171)]
def gML_4 : List (Nat × Nat × Nat) := [(9, 51, 172), (9, 55, 69), (9, 59, 70), (1, 340, 158), (1, 349, 175), (1, 352, 177), (12, 244, 176), (12, 247, 149), (1, 361, 180), (1, 373, 182), (1, 379, 183), (1, 387, 184), (1, 391, 185), (1, 394, 16), (1, 406, 186), (2, 27, 74), (2, 30, 9001), (2, 35, 9002), (14, 145, 191), (14, 255, 192), (14, 263, 194), (14, 164, 195), (14, 177, 198), (14, 149, 196), (14, 153, 197), (14, 185, 204), (14, 234, 205), (14, 181, 206), (14, 174, 199), (14, 167, 200), (14, 171, 203), (14, 160, 201), (14, 156, 202), (14, 268, 208), (14, 271, 210), (14, 279, 212), (14, 282, 213), (14, 285, 215), (14, 293, 218), (14, 296, 220), (14, 290, 219), (14, 304, 222), (14, 299, 223), (14, 308, 225), (14, 311, 229), (14, 316, 234), (14, 320, 235), (14, 323, 236), (14, 326, 237), (14, 205, 239), (14, 221, 245), (14, 329, 246), (14, 241, 250), (14, 212, 238), (14, 198, 240), (14, 202, 241), (14, 215, 242), (14, 218, 244), (14, 208, 243), (14, 228, 247), (14, 231, 249), (14, 225, 248), (14, 332, 252), (14, 335, 253)]
def gML_5 : List (Nat × Nat × Nat) := [(14, 339, 254), (14, 342, 256), (14, 237, 255), (14, 346, 258), (14, 352, 260), (14, 355, 261), (14, 358, 263), (14, 372, 269), (14, 378, 270), (14, 390, 273), (14, 397, 277), (14, 442, 279), (14, 439, 281), (14, 524, 282), (14, 409, 280), (14, 479, 283), (14, 518, 284), (14, 521, 305), (14, 449, 287), (14, 476, 300), (14, 445, 286), (14, 498, 301), (14, 512, 285), (14, 455, 288), (14, 458, 289), (14, 515, 290), (14, 482, 291), (14, 485, 292), (14, 488, 297), (14, 491, 298), (14, 495, 299), (14, 502, 302), (14, 506, 303), (14, 509, 304), (14, 461, 293), (14, 465, 294), (14, 469, 295), (14, 472, 296), (14, 543, 308), (14, 546, 313), (14, 533, 309), (14, 537, 311), (14, 530, 310), (14, 540, 312)]
def gML : List (Nat × Nat × Nat) := gML_0 ++ (gML_1 ++ (gML_2 ++ (gML_3 ++ (gML_4 ++ (gML_5)))))
def gST_0 : List Nat := [3, 24, 27, 30, 28, 35, 42, 45, 50, 51, 61, 66, 72, 102, 103, 138, 143, 191, 202, 212, 213, 220, 219, 249, 295]
def gST : List Nat := gST_0
def gVI_0 : List Nat := [13, 189, 14, 276, 17, 278, 81, 306, 82, 190, 83, 193, 89, 207, 90, 214, 92, 216, 94, 209, 97, 211, 98, 217, 101, 221, 108, 224, 111, 226, 113, 227, 114, 228, 115, 230, 116, 231, 118, 232, 120, 233, 140, 251, 146, 257, 151, 259, 155, 265, 159, 262, 164, 264, 165, 266, 167, 267, 169, 268, 173, 271, 174, 272]
def gVI_1 : List Nat := [178, 274, 179, 275, 181, 307, 187, 314, 15, 16, 18, 19, 22, 77, 78, 79, 80, 20, 23, 31, 21, 25, 29, 26, 32, 38, 41, 43, 59, 73, 75, 33, 34, 36, 37, 39, 40, 44, 47, 52, 53, 55, 57, 58, 46, 48, 49, 54, 56, 60, 63, 64, 67, 68, 62, 71, 65, 69, 70, 74, 76, 84, 85, 86]
def gVI_2 : List Nat := [87, 88, 91, 93, 95, 96, 99, 100, 104, 105, 106, 107, 109, 110, 112, 117, 119, 121, 128, 130, 122, 123, 124, 125, 126, 127, 129, 131, 134, 135, 136, 139, 132, 133, 137, 141, 142, 144, 145, 147, 149, 148, 150, 152, 153, 154, 156, 157, 158, 160, 162, 163, 161, 166, 168, 170, 171, 172, 175, 177, 176, 180, 182, 183]
def gVI_3 : List Nat := [184, 185, 186, 192, 194, 195, 198, 196, 197, 204, 205, 206, 199, 200, 203, 201, 208, 210, 215, 218, 222, 223, 225, 229, 234, 235, 236, 237, 239, 245, 246, 250, 238, 240, 241, 242, 244, 243, 247, 248, 252, 253, 254, 256, 255, 258, 260, 261, 263, 269, 270, 273, 277, 279, 281, 282, 280, 283, 284, 305, 287, 300, 286, 301]
def gVI_4 : List Nat := [285, 288, 289, 290, 291, 292, 297, 298, 299, 302, 303, 304, 293, 294, 296, 308, 313, 309, 311, 310, 312]
def gVI : List Nat := gVI_0 ++ (gVI_1 ++ (gVI_2 ++ (gVI_3 ++ (gVI_4))))
def gSP_0 : List Nat := [1, 188, 2, 4, 6, 9, 10, 12, 5, 7, 8, 11]
def gSP : List Nat := gSP_0
def gNW_0 : List (Nat × Nat × Nat) := [(0, 7, 0), (0, 10, 11), (1, 9, 1), (1, 21, 2), (1, 28, 4), (1, 35, 7), (1, 46, 8), (1, 56, 10), (4, 9, 3), (6, 9, 5), (7, 9, 6), (10, 17, 5), (10, 24, 1), (10, 9, 9)]
def gNW : List (Nat × Nat × Nat) := gNW_0
def gAW_0 : List (Nat × Nat × Nat) := [(6, 9, 5), (10, 9, 9)]
def gAW : List (Nat × Nat × Nat) := gAW_0
def gAT_0 : List Nat := [0, 1, 3, 2]
def gAT : List Nat := gAT_0
def gCI_0 : List (Nat × Nat × Int32) := [(1, 345, 65536)]
def gCI : List (Nat × Nat × Int32) := gCI_0
def gCJ_0 : List (Nat × Nat × Int64) := [(12, 240, 48271), (12, 242, 2147483647), (14, 104, 8740526), (14, 106, 13550), (14, 108, 46486), (14, 110, 409469), (14, 112, 10348), (14, 114, 50849), (14, 116, 282078293), (14, 118, 281027399), (14, 120, 247664), (14, 122, 10504213), (14, 124, 40187), (14, 126, 15827), (14, 128, 14006), (14, 253, 6), (14, 261, 7), (14, 266, 2), (14, 275, 3), (14, 277, 47), (14, 288, 99), (14, 302, 999), (14, 314, 5), (14, 361, 20), (14, 376, (-1)), (14, 382, 500), (14, 384, 65536), (14, 386, 48271), (14, 388, 2147483647), (14, 419, 27), (14, 421, 96), (14, 426, 48), (14, 431, 40)]
def gCJ : List (Nat × Nat × Int64) := gCJ_0
def gCS_0 : List (Nat × Nat × Nat) := [(1, 417, 0), (4, 110, 1), (4, 112, 2), (4, 114, 3), (4, 116, 4), (4, 118, 5), (4, 120, 6), (4, 122, 7), (4, 124, 8), (4, 126, 9), (4, 128, 10), (1, 377, 11), (1, 383, 12), (1, 384, 13), (1, 386, 14), (1, 401, 15)]
def gCS : List (Nat × Nat × Nat) := gCS_0
def gOI_0 : List (Nat × Nat) := [(1, 3), (2, 1), (4, 3), (5, 3), (6, 3), (7, 3), (8, 3), (9, 3), (10, 3), (11, 3), (12, 3), (14, 1)]
def gOI : List (Nat × Nat) := gOI_0
def gAC_0 : List (Nat × Nat) := [(12, 202), (9, 45)]
def gAC : List (Nat × Nat) := gAC_0
abbrev g_chk (m : Nat) (e : Nat × pm_I × Nat) : Bool := pm_chk (g_P []) g_b g_fr g_lo g_o g_i gFL gFP gML gST gVI gSP gNW gAW gAT gCI gCJ gCS gOI gAC m e.1 e.2.1 e.2.2
theorem k_0 : c_0.all (g_chk 0) = true := by decide +kernel
theorem k_1 : c_1.all (g_chk 1) = true := by decide +kernel
theorem k_2 : c_2.all (g_chk 2) = true := by decide +kernel
theorem k_3 : c_3.all (g_chk 3) = true := by decide +kernel
theorem k_4 : c_4.all (g_chk 4) = true := by decide +kernel
theorem k_5 : c_5.all (g_chk 5) = true := by decide +kernel
theorem k_6 : c_6.all (g_chk 6) = true := by decide +kernel
theorem k_7 : c_7.all (g_chk 7) = true := by decide +kernel
theorem k_8 : c_8.all (g_chk 8) = true := by decide +kernel
theorem k_9 : c_9.all (g_chk 9) = true := by decide +kernel
theorem k_10 : c_10.all (g_chk 10) = true := by decide +kernel
theorem k_11 : c_11.all (g_chk 11) = true := by decide +kernel
theorem k_12 : c_12.all (g_chk 12) = true := by decide +kernel
theorem k_13 : c_13.all (g_chk 13) = true := by decide +kernel
theorem k_14 : c_14.all (g_chk 14) = true := by decide +kernel
theorem k_15 : c_15.all (g_chk 15) = true := by decide +kernel
theorem k_16 : c_16.all (g_chk 16) = true := by decide +kernel
theorem k_17 : c_17.all (g_chk 17) = true := by decide +kernel
theorem k_18 : c_18.all (g_chk 18) = true := by decide +kernel
theorem k_19 : c_19.all (g_chk 19) = true := by decide +kernel
theorem k_20 : c_20.all (g_chk 20) = true := by decide +kernel
theorem k_21 : c_21.all (g_chk 21) = true := by decide +kernel
theorem k_22 : c_22.all (g_chk 22) = true := by decide +kernel
theorem k_23 : c_23.all (g_chk 23) = true := by decide +kernel
theorem k_24 : c_24.all (g_chk 24) = true := by decide +kernel
theorem k_25 : c_25.all (g_chk 25) = true := by decide +kernel
theorem k_26 : c_26.all (g_chk 26) = true := by decide +kernel
theorem k_27 : c_27.all (g_chk 27) = true := by decide +kernel
theorem k_28 : c_28.all (g_chk 28) = true := by decide +kernel
theorem k_29 : c_29.all (g_chk 29) = true := by decide +kernel
theorem k_30 : c_30.all (g_chk 30) = true := by decide +kernel
theorem k_31 : c_31.all (g_chk 31) = true := by decide +kernel
theorem k_32 : c_32.all (g_chk 32) = true := by decide +kernel
theorem k_33 : c_33.all (g_chk 33) = true := by decide +kernel
theorem k_34 : c_34.all (g_chk 34) = true := by decide +kernel
theorem k_35 : c_35.all (g_chk 35) = true := by decide +kernel
theorem k_36 : c_36.all (g_chk 36) = true := by decide +kernel
theorem k_37 : c_37.all (g_chk 37) = true := by decide +kernel
theorem k_38 : c_38.all (g_chk 38) = true := by decide +kernel
theorem k_39 : c_39.all (g_chk 39) = true := by decide +kernel
theorem k_40 : c_40.all (g_chk 40) = true := by decide +kernel
theorem k_41 : c_41.all (g_chk 41) = true := by decide +kernel
theorem k_42 : c_42.all (g_chk 42) = true := by decide +kernel
theorem k_43 : c_43.all (g_chk 43) = true := by decide +kernel
theorem k_44 : c_44.all (g_chk 44) = true := by decide +kernel
theorem k_45 : c_45.all (g_chk 45) = true := by decide +kernel
theorem k_46 : c_46.all (g_chk 46) = true := by decide +kernel
theorem k_47 : c_47.all (g_chk 47) = true := by decide +kernel
theorem k_48 : c_48.all (g_chk 48) = true := by decide +kernel
theorem k_49 : c_49.all (g_chk 49) = true := by decide +kernel
theorem k_50 : c_50.all (g_chk 50) = true := by decide +kernel
theorem k_51 : c_51.all (g_chk 51) = true := by decide +kernel
theorem k_52 : c_52.all (g_chk 52) = true := by decide +kernel
theorem k_53 : c_53.all (g_chk 53) = true := by decide +kernel
theorem k_54 : c_54.all (g_chk 54) = true := by decide +kernel
theorem k_55 : c_55.all (g_chk 55) = true := by decide +kernel
theorem k_56 : c_56.all (g_chk 56) = true := by decide +kernel
theorem k_57 : c_57.all (g_chk 57) = true := by decide +kernel
theorem k_58 : c_58.all (g_chk 58) = true := by decide +kernel
theorem k_59 : c_59.all (g_chk 59) = true := by decide +kernel
theorem k_60 : c_60.all (g_chk 60) = true := by decide +kernel
theorem k_61 : c_61.all (g_chk 61) = true := by decide +kernel
theorem k_62 : c_62.all (g_chk 62) = true := by decide +kernel
theorem k_63 : c_63.all (g_chk 63) = true := by decide +kernel
theorem k_64 : c_64.all (g_chk 64) = true := by decide +kernel
theorem k_65 : c_65.all (g_chk 65) = true := by decide +kernel
theorem k_66 : c_66.all (g_chk 66) = true := by decide +kernel
theorem k_67 : c_67.all (g_chk 67) = true := by decide +kernel
theorem k_68 : c_68.all (g_chk 68) = true := by decide +kernel
theorem k_69 : c_69.all (g_chk 69) = true := by decide +kernel
theorem k_70 : c_70.all (g_chk 70) = true := by decide +kernel
theorem k_71 : c_71.all (g_chk 71) = true := by decide +kernel
theorem k_72 : c_72.all (g_chk 72) = true := by decide +kernel
theorem k_73 : c_73.all (g_chk 73) = true := by decide +kernel
theorem k_74 : c_74.all (g_chk 74) = true := by decide +kernel
theorem k_75 : c_75.all (g_chk 75) = true := by decide +kernel
theorem k_76 : c_76.all (g_chk 76) = true := by decide +kernel
theorem k_77 : c_77.all (g_chk 77) = true := by decide +kernel
theorem k_78 : c_78.all (g_chk 78) = true := by decide +kernel
theorem k_79 : c_79.all (g_chk 79) = true := by decide +kernel
theorem k_80 : c_80.all (g_chk 80) = true := by decide +kernel
theorem k_81 : c_81.all (g_chk 81) = true := by decide +kernel
theorem k_82 : c_82.all (g_chk 82) = true := by decide +kernel
theorem k_83 : c_83.all (g_chk 83) = true := by decide +kernel
theorem k_84 : c_84.all (g_chk 84) = true := by decide +kernel
theorem k_85 : c_85.all (g_chk 85) = true := by decide +kernel
theorem k_86 : c_86.all (g_chk 86) = true := by decide +kernel
theorem k_87 : c_87.all (g_chk 87) = true := by decide +kernel
theorem k_88 : c_88.all (g_chk 88) = true := by decide +kernel
theorem k_89 : c_89.all (g_chk 89) = true := by decide +kernel
theorem k_90 : c_90.all (g_chk 90) = true := by decide +kernel
theorem k_91 : c_91.all (g_chk 91) = true := by decide +kernel
theorem k_92 : c_92.all (g_chk 92) = true := by decide +kernel
theorem k_93 : c_93.all (g_chk 93) = true := by decide +kernel
theorem k_94 : c_94.all (g_chk 94) = true := by decide +kernel
theorem k_95 : c_95.all (g_chk 95) = true := by decide +kernel
theorem k_96 : c_96.all (g_chk 96) = true := by decide +kernel
theorem k_97 : c_97.all (g_chk 97) = true := by decide +kernel
theorem k_98 : c_98.all (g_chk 98) = true := by decide +kernel
theorem k_99 : c_99.all (g_chk 99) = true := by decide +kernel
theorem k_100 : c_100.all (g_chk 100) = true := by decide +kernel
theorem k_101 : c_101.all (g_chk 101) = true := by decide +kernel
theorem k_102 : c_102.all (g_chk 102) = true := by decide +kernel
theorem k_103 : c_103.all (g_chk 103) = true := by decide +kernel
theorem k_104 : c_104.all (g_chk 104) = true := by decide +kernel
theorem k_105 : c_105.all (g_chk 105) = true := by decide +kernel
theorem k_106 : c_106.all (g_chk 106) = true := by decide +kernel
theorem k_107 : c_107.all (g_chk 107) = true := by decide +kernel
theorem k_108 : c_108.all (g_chk 108) = true := by decide +kernel
theorem k_109 : c_109.all (g_chk 109) = true := by decide +kernel
theorem k_110 : c_110.all (g_chk 110) = true := by decide +kernel
theorem k_111 : c_111.all (g_chk 111) = true := by decide +kernel
theorem k_112 : c_112.all (g_chk 112) = true := by decide +kernel
theorem k_113 : c_113.all (g_chk 113) = true := by decide +kernel
theorem k_114 : c_114.all (g_chk 114) = true := by decide +kernel
theorem k_115 : c_115.all (g_chk 115) = true := by decide +kernel
theorem k_116 : c_116.all (g_chk 116) = true := by decide +kernel
theorem k_117 : c_117.all (g_chk 117) = true := by decide +kernel
theorem k_118 : c_118.all (g_chk 118) = true := by decide +kernel
theorem k_119 : c_119.all (g_chk 119) = true := by decide +kernel
theorem k_120 : c_120.all (g_chk 120) = true := by decide +kernel
theorem k_121 : c_121.all (g_chk 121) = true := by decide +kernel
theorem k_122 : c_122.all (g_chk 122) = true := by decide +kernel
theorem k_123 : c_123.all (g_chk 123) = true := by decide +kernel
theorem k_124 : c_124.all (g_chk 124) = true := by decide +kernel
theorem k_125 : c_125.all (g_chk 125) = true := by decide +kernel
theorem k_126 : c_126.all (g_chk 126) = true := by decide +kernel
theorem k_127 : c_127.all (g_chk 127) = true := by decide +kernel
theorem k_128 : c_128.all (g_chk 128) = true := by decide +kernel
theorem k_129 : c_129.all (g_chk 129) = true := by decide +kernel
theorem k_130 : c_130.all (g_chk 130) = true := by decide +kernel
theorem k_131 : c_131.all (g_chk 131) = true := by decide +kernel
theorem k_132 : c_132.all (g_chk 132) = true := by decide +kernel
theorem k_133 : c_133.all (g_chk 133) = true := by decide +kernel
theorem k_134 : c_134.all (g_chk 134) = true := by decide +kernel
theorem k_135 : c_135.all (g_chk 135) = true := by decide +kernel
theorem k_136 : c_136.all (g_chk 136) = true := by decide +kernel
theorem k_137 : c_137.all (g_chk 137) = true := by decide +kernel
theorem k_138 : c_138.all (g_chk 138) = true := by decide +kernel
theorem k_139 : c_139.all (g_chk 139) = true := by decide +kernel
theorem k_140 : c_140.all (g_chk 140) = true := by decide +kernel
theorem k_141 : c_141.all (g_chk 141) = true := by decide +kernel
theorem k_142 : c_142.all (g_chk 142) = true := by decide +kernel
theorem k_143 : c_143.all (g_chk 143) = true := by decide +kernel
theorem k_144 : c_144.all (g_chk 144) = true := by decide +kernel
theorem k_145 : c_145.all (g_chk 145) = true := by decide +kernel
theorem k_146 : c_146.all (g_chk 146) = true := by decide +kernel
theorem k_147 : c_147.all (g_chk 147) = true := by decide +kernel
theorem k_148 : c_148.all (g_chk 148) = true := by decide +kernel
theorem k_149 : c_149.all (g_chk 149) = true := by decide +kernel
theorem k_150 : c_150.all (g_chk 150) = true := by decide +kernel
theorem k_151 : c_151.all (g_chk 151) = true := by decide +kernel
theorem k_152 : c_152.all (g_chk 152) = true := by decide +kernel
theorem k_153 : c_153.all (g_chk 153) = true := by decide +kernel
theorem k_154 : c_154.all (g_chk 154) = true := by decide +kernel
theorem k_155 : c_155.all (g_chk 155) = true := by decide +kernel
theorem k_156 : c_156.all (g_chk 156) = true := by decide +kernel
theorem k_157 : c_157.all (g_chk 157) = true := by decide +kernel
theorem k_158 : c_158.all (g_chk 158) = true := by decide +kernel
theorem k_159 : c_159.all (g_chk 159) = true := by decide +kernel
theorem k_160 : c_160.all (g_chk 160) = true := by decide +kernel
theorem k_161 : c_161.all (g_chk 161) = true := by decide +kernel
theorem k_162 : c_162.all (g_chk 162) = true := by decide +kernel
theorem k_163 : c_163.all (g_chk 163) = true := by decide +kernel
theorem k_164 : c_164.all (g_chk 164) = true := by decide +kernel
theorem k_165 : c_165.all (g_chk 165) = true := by decide +kernel
theorem k_166 : c_166.all (g_chk 166) = true := by decide +kernel
theorem k_167 : c_167.all (g_chk 167) = true := by decide +kernel
theorem k_168 : c_168.all (g_chk 168) = true := by decide +kernel
theorem k_169 : c_169.all (g_chk 169) = true := by decide +kernel
theorem k_170 : c_170.all (g_chk 170) = true := by decide +kernel
theorem k_171 : c_171.all (g_chk 171) = true := by decide +kernel
theorem k_172 : c_172.all (g_chk 172) = true := by decide +kernel
theorem k_173 : c_173.all (g_chk 173) = true := by decide +kernel
theorem k_174 : c_174.all (g_chk 174) = true := by decide +kernel
theorem k_175 : c_175.all (g_chk 175) = true := by decide +kernel
theorem k_176 : c_176.all (g_chk 176) = true := by decide +kernel
theorem k_177 : c_177.all (g_chk 177) = true := by decide +kernel
theorem k_178 : c_178.all (g_chk 178) = true := by decide +kernel
theorem k_179 : c_179.all (g_chk 179) = true := by decide +kernel
theorem k_180 : c_180.all (g_chk 180) = true := by decide +kernel
theorem k_181 : c_181.all (g_chk 181) = true := by decide +kernel
theorem k_182 : c_182.all (g_chk 182) = true := by decide +kernel
theorem k_183 : c_183.all (g_chk 183) = true := by decide +kernel
theorem k_184 : c_184.all (g_chk 184) = true := by decide +kernel
theorem k_185 : c_185.all (g_chk 185) = true := by decide +kernel
theorem k_186 : c_186.all (g_chk 186) = true := by decide +kernel
theorem k_187 : c_187.all (g_chk 187) = true := by decide +kernel
theorem k_188 : c_188.all (g_chk 188) = true := by decide +kernel
theorem k_189 : c_189.all (g_chk 189) = true := by decide +kernel
theorem k_190 : c_190.all (g_chk 190) = true := by decide +kernel
theorem k_191 : c_191.all (g_chk 191) = true := by decide +kernel
theorem k_192 : c_192.all (g_chk 192) = true := by decide +kernel
theorem k_193 : c_193.all (g_chk 193) = true := by decide +kernel
theorem k_194 : c_194.all (g_chk 194) = true := by decide +kernel
theorem k_195 : c_195.all (g_chk 195) = true := by decide +kernel
theorem k_196 : c_196.all (g_chk 196) = true := by decide +kernel
theorem k_197 : c_197.all (g_chk 197) = true := by decide +kernel
theorem k_198 : c_198.all (g_chk 198) = true := by decide +kernel
theorem k_199 : c_199.all (g_chk 199) = true := by decide +kernel
theorem k_200 : c_200.all (g_chk 200) = true := by decide +kernel
theorem k_201 : c_201.all (g_chk 201) = true := by decide +kernel
theorem k_202 : c_202.all (g_chk 202) = true := by decide +kernel
theorem k_203 : c_203.all (g_chk 203) = true := by decide +kernel
theorem k_204 : c_204.all (g_chk 204) = true := by decide +kernel
theorem k_205 : c_205.all (g_chk 205) = true := by decide +kernel
theorem k_206 : c_206.all (g_chk 206) = true := by decide +kernel
theorem k_207 : c_207.all (g_chk 207) = true := by decide +kernel
theorem k_208 : c_208.all (g_chk 208) = true := by decide +kernel
theorem k_209 : c_209.all (g_chk 209) = true := by decide +kernel
theorem k_210 : c_210.all (g_chk 210) = true := by decide +kernel
theorem k_211 : c_211.all (g_chk 211) = true := by decide +kernel
theorem k_212 : c_212.all (g_chk 212) = true := by decide +kernel
theorem k_213 : c_213.all (g_chk 213) = true := by decide +kernel
theorem k_214 : c_214.all (g_chk 214) = true := by decide +kernel
theorem k_215 : c_215.all (g_chk 215) = true := by decide +kernel
theorem k_216 : c_216.all (g_chk 216) = true := by decide +kernel
theorem k_217 : c_217.all (g_chk 217) = true := by decide +kernel
theorem k_218 : c_218.all (g_chk 218) = true := by decide +kernel
theorem k_219 : c_219.all (g_chk 219) = true := by decide +kernel
theorem k_220 : c_220.all (g_chk 220) = true := by decide +kernel
theorem k_221 : c_221.all (g_chk 221) = true := by decide +kernel
theorem k_222 : c_222.all (g_chk 222) = true := by decide +kernel
theorem k_223 : c_223.all (g_chk 223) = true := by decide +kernel
theorem k_224 : c_224.all (g_chk 224) = true := by decide +kernel
theorem k_225 : c_225.all (g_chk 225) = true := by decide +kernel
theorem k_226 : c_226.all (g_chk 226) = true := by decide +kernel
theorem k_227 : c_227.all (g_chk 227) = true := by decide +kernel
theorem k_228 : c_228.all (g_chk 228) = true := by decide +kernel
theorem k_229 : c_229.all (g_chk 229) = true := by decide +kernel
theorem k_230 : c_230.all (g_chk 230) = true := by decide +kernel
theorem k_231 : c_231.all (g_chk 231) = true := by decide +kernel
theorem k_232 : c_232.all (g_chk 232) = true := by decide +kernel
theorem k_233 : c_233.all (g_chk 233) = true := by decide +kernel
theorem k_234 : c_234.all (g_chk 234) = true := by decide +kernel
theorem k_235 : c_235.all (g_chk 235) = true := by decide +kernel
theorem k_236 : c_236.all (g_chk 236) = true := by decide +kernel
theorem k_237 : c_237.all (g_chk 237) = true := by decide +kernel
theorem k_238 : c_238.all (g_chk 238) = true := by decide +kernel
theorem k_239 : c_239.all (g_chk 239) = true := by decide +kernel
theorem k_240 : c_240.all (g_chk 240) = true := by decide +kernel
theorem k_241 : c_241.all (g_chk 241) = true := by decide +kernel
theorem k_242 : c_242.all (g_chk 242) = true := by decide +kernel
theorem k_243 : c_243.all (g_chk 243) = true := by decide +kernel
theorem k_244 : c_244.all (g_chk 244) = true := by decide +kernel
theorem k_245 : c_245.all (g_chk 245) = true := by decide +kernel
theorem k_246 : c_246.all (g_chk 246) = true := by decide +kernel
theorem k_247 : c_247.all (g_chk 247) = true := by decide +kernel
theorem k_248 : c_248.all (g_chk 248) = true := by decide +kernel
theorem k_249 : c_249.all (g_chk 249) = true := by decide +kernel
theorem k_250 : c_250.all (g_chk 250) = true := by decide +kernel
theorem k_251 : c_251.all (g_chk 251) = true := by decide +kernel
theorem k_252 : c_252.all (g_chk 252) = true := by decide +kernel
theorem k_253 : c_253.all (g_chk 253) = true := by decide +kernel
theorem k_254 : c_254.all (g_chk 254) = true := by decide +kernel
theorem k_255 : c_255.all (g_chk 255) = true := by decide +kernel
theorem k_256 : c_256.all (g_chk 256) = true := by decide +kernel
theorem k_257 : c_257.all (g_chk 257) = true := by decide +kernel
theorem k_258 : c_258.all (g_chk 258) = true := by decide +kernel
theorem k_259 : c_259.all (g_chk 259) = true := by decide +kernel
theorem k_260 : c_260.all (g_chk 260) = true := by decide +kernel
theorem k_261 : c_261.all (g_chk 261) = true := by decide +kernel
theorem k_262 : c_262.all (g_chk 262) = true := by decide +kernel
theorem k_263 : c_263.all (g_chk 263) = true := by decide +kernel
theorem k_264 : c_264.all (g_chk 264) = true := by decide +kernel
theorem k_265 : c_265.all (g_chk 265) = true := by decide +kernel
theorem k_266 : c_266.all (g_chk 266) = true := by decide +kernel
theorem k_267 : c_267.all (g_chk 267) = true := by decide +kernel
theorem k_268 : c_268.all (g_chk 268) = true := by decide +kernel
theorem k_269 : c_269.all (g_chk 269) = true := by decide +kernel
theorem k_270 : c_270.all (g_chk 270) = true := by decide +kernel
theorem k_271 : c_271.all (g_chk 271) = true := by decide +kernel
theorem k_272 : c_272.all (g_chk 272) = true := by decide +kernel
theorem k_273 : c_273.all (g_chk 273) = true := by decide +kernel
theorem k_274 : c_274.all (g_chk 274) = true := by decide +kernel
theorem k_275 : c_275.all (g_chk 275) = true := by decide +kernel
theorem k_276 : c_276.all (g_chk 276) = true := by decide +kernel
theorem k_277 : c_277.all (g_chk 277) = true := by decide +kernel
theorem k_278 : c_278.all (g_chk 278) = true := by decide +kernel
theorem k_279 : c_279.all (g_chk 279) = true := by decide +kernel
theorem k_280 : c_280.all (g_chk 280) = true := by decide +kernel
theorem k_281 : c_281.all (g_chk 281) = true := by decide +kernel
theorem k_282 : c_282.all (g_chk 282) = true := by decide +kernel
theorem k_283 : c_283.all (g_chk 283) = true := by decide +kernel
theorem k_284 : c_284.all (g_chk 284) = true := by decide +kernel
theorem k_285 : c_285.all (g_chk 285) = true := by decide +kernel
theorem k_286 : c_286.all (g_chk 286) = true := by decide +kernel
theorem k_287 : c_287.all (g_chk 287) = true := by decide +kernel
theorem k_288 : c_288.all (g_chk 288) = true := by decide +kernel
theorem k_289 : c_289.all (g_chk 289) = true := by decide +kernel
theorem k_290 : c_290.all (g_chk 290) = true := by decide +kernel
theorem k_291 : c_291.all (g_chk 291) = true := by decide +kernel
theorem k_292 : c_292.all (g_chk 292) = true := by decide +kernel
theorem k_293 : c_293.all (g_chk 293) = true := by decide +kernel
theorem k_294 : c_294.all (g_chk 294) = true := by decide +kernel
theorem k_295 : c_295.all (g_chk 295) = true := by decide +kernel
theorem k_296 : c_296.all (g_chk 296) = true := by decide +kernel
theorem k_297 : c_297.all (g_chk 297) = true := by decide +kernel
theorem k_298 : c_298.all (g_chk 298) = true := by decide +kernel
theorem k_299 : c_299.all (g_chk 299) = true := by decide +kernel
theorem k_300 : c_300.all (g_chk 300) = true := by decide +kernel
theorem k_301 : c_301.all (g_chk 301) = true := by decide +kernel
theorem k_302 : c_302.all (g_chk 302) = true := by decide +kernel
theorem k_303 : c_303.all (g_chk 303) = true := by decide +kernel
theorem k_304 : c_304.all (g_chk 304) = true := by decide +kernel
theorem k_305 : c_305.all (g_chk 305) = true := by decide +kernel
theorem k_306 : c_306.all (g_chk 306) = true := by decide +kernel
theorem k_307 : c_307.all (g_chk 307) = true := by decide +kernel
theorem k_308 : c_308.all (g_chk 308) = true := by decide +kernel
theorem k_309 : c_309.all (g_chk 309) = true := by decide +kernel
theorem k_310 : c_310.all (g_chk 310) = true := by decide +kernel
theorem k_311 : c_311.all (g_chk 311) = true := by decide +kernel
theorem k_312 : c_312.all (g_chk 312) = true := by decide +kernel
theorem k_313 : c_313.all (g_chk 313) = true := by decide +kernel
theorem k_314 : c_314.all (g_chk 314) = true := by decide +kernel
