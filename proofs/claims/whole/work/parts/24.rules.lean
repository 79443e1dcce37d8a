/-! THE MODEL'S MEMORY: a fixed naming of the cells (wip/whole/layout.py), and rules by which a method's code is walked over it -/
def g_tab : List (List (Nat × Nat × List Nat)) := [
  [(0, 11, [2, 201, 301, 401, 4, 5, 6, 7, 9, 17, 22]), (0, 8, [3]), (2, 400, []), (6, 12, []), (0, 1, [2, 301, 303, 351]), (0, 5, [2, 309]), (0, 2, [201, 203, 251, 8]), (1, 8, []), (0, 9, [201, 203, 251, 10, 11, 12, 13, 14, 15, 16]), (1, 3208, []), (1, 6, []), (1, 6, []), (1, 8, []), (1, 8, []), (5, 61, [101, 102, 103, 104, 105, 106, 107, 108, 109, 110, 111, 112, 113, 114, 115, 116, 117, 118, 119, 120, 121, 122, 123, 124, 125, 126, 127, 128, 129, 130, 131, 132, 133, 134, 135, 136, 137, 138, 139, 140, 141, 142, 143, 144, 145, 146, 147, 148, 149, 150, 151, 152, 153, 154, 155, 156, 157, 158, 159, 160, 161]), (5, 5, [166, 167, 168, 169, 170]), (0, 0, [18, 19, 20, 21]), (1, 400, []), (1, 9, []), (1, 9, []), (1, 9, []), (0, 7, [23, 24]), (1, 256, []), (1, 256, [])],
  [(1, 6, []), (1, 6, []), (1, 6, []), (1, 6, []), (1, 6, []), (1, 6, []), (1, 6, []), (1, 6, []), (1, 6, []), (1, 6, []), (1, 6, []), (1, 6, []), (1, 6, []), (1, 6, []), (1, 6, []), (1, 6, []), (1, 6, []), (1, 6, []), (1, 6, []), (1, 6, []), (1, 6, []), (1, 6, []), (1, 6, []), (1, 6, []), (1, 6, []), (1, 6, []), (1, 6, []), (1, 6, []), (1, 6, []), (1, 6, []), (1, 6, []), (1, 6, []), (1, 6, []), (1, 6, []), (1, 6, []), (1, 6, []), (1, 6, []), (1, 6, []), (1, 6, []), (1, 6, []), (1, 6, []), (1, 6, []), (1, 6, []), (1, 6, []), (1, 6, []), (1, 6, []), (1, 6, []), (1, 6, []), (1, 6, []), (1, 6, []), (1, 6, []), (1, 6, []), (1, 6, []), (1, 6, []), (1, 6, []), (1, 6, []), (1, 6, []), (1, 6, []), (1, 6, []), (1, 6, []), (1, 6, []), (9, 0, []), (9, 0, []), (9, 0, []), (9, 0, []), (1, 6, []), (1, 6, []), (1, 6, []), (1, 6, []), (1, 6, [])],
  [(0, 10, [203, 251, 209, 202]), (1, 10, []), (0, 3, [204, 205, 206, 207, 208]), (1, 6, []), (5, 8, [215, 216, 217, 218, 219, 220, 221, 222]), (5, 12, [223, 224, 225, 226, 227, 228, 229, 230, 231, 232, 233, 234]), (5, 8, [235, 236, 237, 238, 239, 240, 241, 242]), (5, 8, [243, 244, 245, 246, 247, 248, 249, 250]), (0, 4, [210, 211, 212, 213, 214]), (1, 12, []), (1, 12, []), (1, 12, []), (1, 400, []), (1, 40, []), (1, 2, []), (1, 2, []), (1, 2, []), (1, 2, []), (1, 2, []), (1, 2, []), (1, 2, []), (1, 2, []), (1, 3, []), (1, 3, []), (1, 3, []), (1, 3, []), (1, 3, []), (1, 3, []), (1, 3, []), (1, 3, []), (1, 3, []), (1, 3, []), (1, 3, []), (1, 3, []), (1, 6, []), (1, 6, []), (1, 6, []), (1, 6, []), (1, 6, []), (1, 6, []), (1, 6, []), (1, 6, []), (1, 3, []), (1, 3, []), (1, 3, []), (1, 3, []), (1, 3, []), (1, 3, []), (1, 3, []), (1, 3, []), (0, 6, [252, 253, 254, 255, 256, 257, 258, 259, 260, 261, 262]), (5, 6, [263, 264, 265, 266, 267, 268]), (1, 8, []), (1, 8, []), (1, 8, []), (1, 8, []), (1, 8, []), (1, 8, []), (1, 8, []), (1, 8, []), (1, 8, []), (1, 400, []), (1, 16, []), (1, 16, []), (1, 16, []), (1, 16, []), (1, 16, []), (1, 16, [])],
  [(0, 10, [303, 351, 309, 302]), (1, 10, []), (0, 3, [304, 305, 306, 307, 308]), (1, 6, []), (5, 8, [315, 316, 317, 318, 319, 320, 321, 322]), (5, 12, [323, 324, 325, 326, 327, 328, 329, 330, 331, 332, 333, 334]), (5, 8, [335, 336, 337, 338, 339, 340, 341, 342]), (5, 8, [343, 344, 345, 346, 347, 348, 349, 350]), (0, 4, [310, 311, 312, 313, 314]), (1, 12, []), (1, 12, []), (1, 12, []), (1, 400, []), (1, 40, []), (1, 2, []), (1, 2, []), (1, 2, []), (1, 2, []), (1, 2, []), (1, 2, []), (1, 2, []), (1, 2, []), (1, 3, []), (1, 3, []), (1, 3, []), (1, 3, []), (1, 3, []), (1, 3, []), (1, 3, []), (1, 3, []), (1, 3, []), (1, 3, []), (1, 3, []), (1, 3, []), (1, 6, []), (1, 6, []), (1, 6, []), (1, 6, []), (1, 6, []), (1, 6, []), (1, 6, []), (1, 6, []), (1, 3, []), (1, 3, []), (1, 3, []), (1, 3, []), (1, 3, []), (1, 3, []), (1, 3, []), (1, 3, []), (0, 6, [352, 353, 354, 355, 356, 357, 358, 359, 360, 361, 362]), (5, 6, [363, 364, 365, 366, 367, 368]), (1, 8, []), (1, 8, []), (1, 8, []), (1, 8, []), (1, 8, []), (1, 8, []), (1, 8, []), (1, 8, []), (1, 8, []), (1, 400, []), (1, 16, []), (1, 16, []), (1, 16, []), (1, 16, []), (1, 16, []), (1, 16, [])],
  [(0, 10, [403, 451, 409, 402]), (1, 10, []), (0, 3, [404, 405, 406, 407, 408]), (1, 6, []), (5, 8, [415, 416, 417, 418, 419, 420, 421, 422]), (5, 12, [423, 424, 425, 426, 427, 428, 429, 430, 431, 432, 433, 434]), (5, 8, [435, 436, 437, 438, 439, 440, 441, 442]), (5, 8, [443, 444, 445, 446, 447, 448, 449, 450]), (0, 4, [410, 411, 412, 413, 414]), (1, 12, []), (1, 12, []), (1, 12, []), (1, 400, []), (1, 40, []), (1, 2, []), (1, 2, []), (1, 2, []), (1, 2, []), (1, 2, []), (1, 2, []), (1, 2, []), (1, 2, []), (1, 3, []), (1, 3, []), (1, 3, []), (1, 3, []), (1, 3, []), (1, 3, []), (1, 3, []), (1, 3, []), (1, 3, []), (1, 3, []), (1, 3, []), (1, 3, []), (1, 6, []), (1, 6, []), (1, 6, []), (1, 6, []), (1, 6, []), (1, 6, []), (1, 6, []), (1, 6, []), (1, 3, []), (1, 3, []), (1, 3, []), (1, 3, []), (1, 3, []), (1, 3, []), (1, 3, []), (1, 3, []), (0, 6, [452, 453, 454, 455, 456, 457, 458, 459, 460, 461, 462]), (5, 6, [463, 464, 465, 466, 467, 468]), (1, 8, []), (1, 8, []), (1, 8, []), (1, 8, []), (1, 8, []), (1, 8, []), (1, 8, []), (1, 8, []), (1, 8, []), (1, 400, []), (1, 16, []), (1, 16, []), (1, 16, []), (1, 16, []), (1, 16, []), (1, 16, [])],
  [(0, 6, [502, 503, 504, 505, 506, 507, 508, 509, 510, 511, 512]), (5, 6, [513, 514, 515, 516, 517, 518]), (1, 8, []), (1, 8, []), (1, 8, []), (1, 8, []), (1, 8, []), (1, 8, []), (1, 8, []), (1, 8, []), (1, 8, []), (1, 400, []), (1, 16, []), (1, 16, []), (1, 16, []), (1, 16, []), (1, 16, []), (1, 16, []), (9, 0, []), (9, 0, []), (0, 6, [522, 523, 524, 525, 526, 527, 528, 529, 530, 531, 532]), (5, 6, [533, 534, 535, 536, 537, 538]), (1, 8, []), (1, 8, []), (1, 8, []), (1, 8, []), (1, 8, []), (1, 8, []), (1, 8, []), (1, 8, []), (1, 8, []), (1, 400, []), (1, 16, []), (1, 16, []), (1, 16, []), (1, 16, []), (1, 16, []), (1, 16, []), (9, 0, []), (9, 0, []), (0, 6, [542, 543, 544, 545, 546, 547, 548, 549, 550, 551, 552]), (5, 6, [553, 554, 555, 556, 557, 558]), (1, 8, []), (1, 8, []), (1, 8, []), (1, 8, []), (1, 8, []), (1, 8, []), (1, 8, []), (1, 8, []), (1, 8, []), (1, 400, []), (1, 16, []), (1, 16, []), (1, 16, []), (1, 16, []), (1, 16, []), (1, 16, []), (9, 0, []), (9, 0, []), (0, 6, [562, 563, 564, 565, 566, 567, 568, 569, 570, 571, 572]), (5, 6, [573, 574, 575, 576, 577, 578]), (1, 8, []), (1, 8, []), (1, 8, []), (1, 8, []), (1, 8, []), (1, 8, []), (1, 8, []), (1, 8, []), (1, 8, []), (1, 400, []), (1, 16, []), (1, 16, []), (1, 16, []), (1, 16, []), (1, 16, []), (1, 16, []), (9, 0, []), (9, 0, []), (0, 6, [582, 583, 584, 585, 586, 587, 588, 589, 590, 591, 592]), (5, 6, [593, 594, 595, 596, 597, 598]), (1, 8, []), (1, 8, []), (1, 8, []), (1, 8, []), (1, 8, []), (1, 8, []), (1, 8, []), (1, 8, []), (1, 8, []), (1, 400, []), (1, 16, []), (1, 16, []), (1, 16, []), (1, 16, []), (1, 16, []), (1, 16, [])],
  [(0, 6, [602, 603, 604, 605, 606, 607, 608, 609, 610, 611, 612]), (5, 6, [613, 614, 615, 616, 617, 618]), (1, 8, []), (1, 8, []), (1, 8, []), (1, 8, []), (1, 8, []), (1, 8, []), (1, 8, []), (1, 8, []), (1, 8, []), (1, 400, []), (1, 16, []), (1, 16, []), (1, 16, []), (1, 16, []), (1, 16, []), (1, 16, []), (9, 0, []), (9, 0, []), (0, 6, [622, 623, 624, 625, 626, 627, 628, 629, 630, 631, 632]), (5, 6, [633, 634, 635, 636, 637, 638]), (1, 8, []), (1, 8, []), (1, 8, []), (1, 8, []), (1, 8, []), (1, 8, []), (1, 8, []), (1, 8, []), (1, 8, []), (1, 400, []), (1, 16, []), (1, 16, []), (1, 16, []), (1, 16, []), (1, 16, []), (1, 16, []), (9, 0, []), (9, 0, []), (0, 6, [642, 643, 644, 645, 646, 647, 648, 649, 650, 651, 652]), (5, 6, [653, 654, 655, 656, 657, 658]), (1, 8, []), (1, 8, []), (1, 8, []), (1, 8, []), (1, 8, []), (1, 8, []), (1, 8, []), (1, 8, []), (1, 8, []), (1, 400, []), (1, 16, []), (1, 16, []), (1, 16, []), (1, 16, []), (1, 16, []), (1, 16, []), (9, 0, []), (9, 0, []), (0, 6, [662, 663, 664, 665, 666, 667, 668, 669, 670, 671, 672]), (5, 6, [673, 674, 675, 676, 677, 678]), (1, 8, []), (1, 8, []), (1, 8, []), (1, 8, []), (1, 8, []), (1, 8, []), (1, 8, []), (1, 8, []), (1, 8, []), (1, 400, []), (1, 16, []), (1, 16, []), (1, 16, []), (1, 16, []), (1, 16, []), (1, 16, []), (9, 0, []), (9, 0, []), (0, 6, [682, 683, 684, 685, 686, 687, 688, 689, 690, 691, 692]), (5, 6, [693, 694, 695, 696, 697, 698]), (1, 8, []), (1, 8, []), (1, 8, []), (1, 8, []), (1, 8, []), (1, 8, []), (1, 8, []), (1, 8, []), (1, 8, []), (1, 400, []), (1, 16, []), (1, 16, []), (1, 16, []), (1, 16, []), (1, 16, []), (1, 16, [])],
  [(0, 6, [702, 703, 704, 705, 706, 707, 708, 709, 710, 711, 712]), (5, 6, [713, 714, 715, 716, 717, 718]), (1, 8, []), (1, 8, []), (1, 8, []), (1, 8, []), (1, 8, []), (1, 8, []), (1, 8, []), (1, 8, []), (1, 8, []), (1, 400, []), (1, 16, []), (1, 16, []), (1, 16, []), (1, 16, []), (1, 16, []), (1, 16, []), (9, 0, []), (9, 0, []), (0, 6, [722, 723, 724, 725, 726, 727, 728, 729, 730, 731, 732]), (5, 6, [733, 734, 735, 736, 737, 738]), (1, 8, []), (1, 8, []), (1, 8, []), (1, 8, []), (1, 8, []), (1, 8, []), (1, 8, []), (1, 8, []), (1, 8, []), (1, 400, []), (1, 16, []), (1, 16, []), (1, 16, []), (1, 16, []), (1, 16, []), (1, 16, [])],
  [(0, 12, [0, 802, 803, 804, 805, 0, 0, 806, 0, 0, 0, 0, 0, 0, 807, 0, 808, 809, 810, 811, 812, 813, 814, 815, 816, 817, 818, 819]), (1, 2407, []), (1, 1558, []), (1, 1558, []), (1, 8508, []), (2, 400, []), (1, 5, []), (1, 400, []), (1, 8, []), (3, 1236, []), (3, 1206, []), (3, 1236, []), (1, 8, []), (1, 8, []), (1, 16, []), (1, 256, []), (1, 396, []), (1, 5, []), (3, 77952, [])],
  [(4, 1, [])]]
def g_cell (a : Nat) : Nat × Nat × List Nat := (g_tab.getD (a / 100) []).getD (a % 100) (9, 0, [])
def g_ref (p : Nat → Nat) (a i : Nat) : Option Nat := if a = 3 then (if i < 12 then some (500 + 20 * p i) else none) else match (g_cell a).2.2.getD i 0 with
  | 0 => none
  | q + 1 => some q
def g_sh (p : Nat → Nat) (a : Nat) : am_Sh := ((g_cell a).1, (g_cell a).2.1, g_ref p a)
def g_is (a kd n : Nat) : Bool := Nat.ble (a + 1) 1000 && Nat.beq (g_cell a).1 kd && Nat.beq (g_cell a).2.1 n
def g_L : List Nat := [0, 1, 2, 3, 4, 5, 6, 7, 8, 9, 10, 11, 12, 13, 14, 15, 16, 17, 18, 19, 20, 21, 22, 23, 100, 101, 102, 103, 104, 105, 106, 107, 108, 109, 110, 111, 112, 113, 114, 115, 116, 117, 118, 119, 120, 121, 122, 123, 124, 125, 126, 127, 128, 129, 130, 131, 132, 133, 134, 135, 136, 137, 138, 139, 140, 141, 142, 143, 144, 145, 146, 147, 148, 149, 150, 151, 152, 153, 154, 155, 156, 157, 158, 159, 160, 165, 166, 167, 168, 169, 200, 201, 202, 203, 204, 205, 206, 207, 208, 209, 210, 211, 212, 213, 214, 215, 216, 217, 218, 219, 220, 221, 222, 223, 224, 225, 226, 227, 228, 229, 230, 231, 232, 233, 234, 235, 236, 237, 238, 239, 240, 241, 242, 243, 244, 245, 246, 247, 248, 249, 250, 251, 252, 253, 254, 255, 256, 257, 258, 259, 260, 261, 262, 263, 264, 265, 266, 267, 300, 301, 302, 303, 304, 305, 306, 307, 308, 309, 310, 311, 312, 313, 314, 315, 316, 317, 318, 319, 320, 321, 322, 323, 324, 325, 326, 327, 328, 329, 330, 331, 332, 333, 334, 335, 336, 337, 338, 339, 340, 341, 342, 343, 344, 345, 346, 347, 348, 349, 350, 351, 352, 353, 354, 355, 356, 357, 358, 359, 360, 361, 362, 363, 364, 365, 366, 367, 400, 401, 402, 403, 404, 405, 406, 407, 408, 409, 410, 411, 412, 413, 414, 415, 416, 417, 418, 419, 420, 421, 422, 423, 424, 425, 426, 427, 428, 429, 430, 431, 432, 433, 434, 435, 436, 437, 438, 439, 440, 441, 442, 443, 444, 445, 446, 447, 448, 449, 450, 451, 452, 453, 454, 455, 456, 457, 458, 459, 460, 461, 462, 463, 464, 465, 466, 467, 500, 501, 502, 503, 504, 505, 506, 507, 508, 509, 510, 511, 512, 513, 514, 515, 516, 517, 520, 521, 522, 523, 524, 525, 526, 527, 528, 529, 530, 531, 532, 533, 534, 535, 536, 537, 540, 541, 542, 543, 544, 545, 546, 547, 548, 549, 550, 551, 552, 553, 554, 555, 556, 557, 560, 561, 562, 563, 564, 565, 566, 567, 568, 569, 570, 571, 572, 573, 574, 575, 576, 577, 580, 581, 582, 583, 584, 585, 586, 587, 588, 589, 590, 591, 592, 593, 594, 595, 596, 597, 600, 601, 602, 603, 604, 605, 606, 607, 608, 609, 610, 611, 612, 613, 614, 615, 616, 617, 620, 621, 622, 623, 624, 625, 626, 627, 628, 629, 630, 631, 632, 633, 634, 635, 636, 637, 640, 641, 642, 643, 644, 645, 646, 647, 648, 649, 650, 651, 652, 653, 654, 655, 656, 657, 660, 661, 662, 663, 664, 665, 666, 667, 668, 669, 670, 671, 672, 673, 674, 675, 676, 677, 680, 681, 682, 683, 684, 685, 686, 687, 688, 689, 690, 691, 692, 693, 694, 695, 696, 697, 700, 701, 702, 703, 704, 705, 706, 707, 708, 709, 710, 711, 712, 713, 714, 715, 716, 717, 720, 721, 722, 723, 724, 725, 726, 727, 728, 729, 730, 731, 732, 733, 734, 735, 736, 737, 800, 801, 802, 803, 804, 805, 806, 807, 808, 809, 810, 811, 812, 813, 814, 815, 816, 817, 818, 900]
def gE (p : Nat → Nat) : am_E := (none, g_L, g_sh p)
abbrev Mg : Type := Nat → Nat → Int32
def mu (sg : Mg) (a i : Nat) (x : Int32) : Mg := va_up sg a (upd (sg a) i x)
theorem mu_self {sg : Mg} {a i : Nat} {x : Int32} : mu sg a i x a i = x := by simp [mu, va_up, upd]
theorem mu_idx {sg : Mg} {a i j : Nat} {x : Int32} (h : j ≠ i) : mu sg a i x a j = sg a j := by simp [mu, va_up, upd, h]
theorem mu_ne {sg : Mg} {a b i : Nat} {x : Int32} (h : b ≠ a) : mu sg a i x b = sg b := by simp [mu, va_up, h]
theorem mu_row {sg : Mg} {a i : Nat} {x : Int32} : mu sg a i x a = upd (sg a) i x := by simp [mu, va_up]
theorem upd_self {f : Nat → Int32} {i : Nat} {x : Int32} : upd f i x i = x := by simp [upd]
theorem upd_ne {f : Nat → Int32} {i j : Nat} {x : Int32} (h : j ≠ i) : upd f i x j = f j := by simp [upd, h]
theorem g_mem0 : (List.range 1000).all (fun a => Nat.beq (g_cell a).1 9 || g_L.elem a) = true := by decide +kernel
theorem g_mem {a : Nat} (h1 : a < 1000) (h2 : (g_cell a).1 ≠ 9) : a ∈ g_L := by
  rcases Bool.or_eq_true_iff.mp (List.all_eq_true.mp g_mem0 a (List.mem_range.mpr h1)) with h | h
  · exact absurd (Nat.eq_of_beq_eq_true h) h2
  · exact List.mem_of_elem_eq_true h
theorem g_A {p : Nat → Nat} {a kd n : Nat} (h : g_is a kd n = true) (h9 : kd ≠ 9) : am_A (gE p) a kd n := by
  unfold g_is at h
  rw [Bool.and_eq_true, Bool.and_eq_true] at h
  obtain ⟨⟨h1, h2⟩, h3⟩ := h
  have h1 := Nat.le_of_ble_eq_true h1
  have h2 := Nat.eq_of_beq_eq_true h2
  have h3 := Nat.eq_of_beq_eq_true h3
  exact ⟨g_mem h1 (by rw [h2]; exact h9), h2, h3⟩
abbrev gRv (p : Nat → Nat) (sg : Mg) (v : Int32) : am_R := ((gE p, sg), .inl (some (vI v)), 0, 0)
abbrev gR0 (p : Nat → Nat) (sg : Mg) : am_R := ((gE p, sg), .inl none, 0, 0)
abbrev gRx (p : Nat → Nat) (sg : Mg) (e : Nat) : am_R := ((gE p, sg), .inr e, 1, 6)
/-- a row that needs nothing -/
def g_p1 (p : Nat → Nat) (sg : Mg) (cd k : List am_CE) (q : am_CE) (lv : List (Option AV)) (st : List AV) : Option (List am_CE × List (Option AV) × List AV) := match q with
  | (_, i, _, r1, r2, x) => match i with
    | .iload_n _ | .iload _ => match lv.getD r1 none with
      | some (.inl v) => some (k, lv, .inl v :: st)
      | _ => none
    | .aload_n _ | .aload _ => match lv.getD r1 none with
      | some (.inr v) => some (k, lv, .inr v :: st)
      | _ => none
    | .istore_n _ | .istore _ => match st with
      | .inl v :: s => some (k, lv.set r1 (some (.inl v)), s)
      | _ => none
    | .astore_n _ | .astore _ => match st with
      | .inr (.inl v) :: s => some (k, lv.set r1 (some (.inr (.inl v))), s)
      | _ => none
    | .iinc _ _ => match lv.getD r1 none with
      | some (.inl v) => some (k, lv.set r1 (some (.inl (v + x))), st)
      | _ => none
    | .iconst _ | .bipush _ | .sipush _ => some (k, lv, .inl x :: st)
    | .ldc _ | .ldc_w _ => match r1 with
      | 0 => some (k, lv, .inl x :: st)
      | _ => some (k, lv, vS r2 :: st)
    | .iadd => match st with
      | .inl b :: .inl a :: s => some (k, lv, .inl (a + b) :: s)
      | _ => none
    | .isub => match st with
      | .inl b :: .inl a :: s => some (k, lv, .inl (a - b) :: s)
      | _ => none
    | .imul => match st with
      | .inl b :: .inl a :: s => some (k, lv, .inl (a * b) :: s)
      | _ => none
    | .iand => match st with
      | .inl b :: .inl a :: s => some (k, lv, .inl (a &&& b) :: s)
      | _ => none
    | .ior => match st with
      | .inl b :: .inl a :: s => some (k, lv, .inl (a ||| b) :: s)
      | _ => none
    | .ixor => match st with
      | .inl b :: .inl a :: s => some (k, lv, .inl (a ^^^ b) :: s)
      | _ => none
    | .ishl => match st with
      | .inl b :: .inl a :: s => some (k, lv, .inl (a <<< (b &&& 31)) :: s)
      | _ => none
    | .ishr => match st with
      | .inl b :: .inl a :: s => some (k, lv, .inl (a >>> (b &&& 31)) :: s)
      | _ => none
    | .iushr => match st with
      | .inl b :: .inl a :: s => some (k, lv, .inl (a.toUInt32 >>> (b.toUInt32 &&& Int32.toUInt32 31)).toInt32 :: s)
      | _ => none
    | .ineg => match st with
      | .inl a :: s => some (k, lv, .inl (-a) :: s)
      | _ => none
    | .i2b => match st with
      | .inl a :: s => some (k, lv, .inl a.toInt8.toInt32 :: s)
      | _ => none
    | .dup => match st with
      | .inl a :: s => some (k, lv, .inl a :: .inl a :: s)
      | .inr (.inl a) :: s => some (k, lv, .inr (.inl a) :: .inr (.inl a) :: s)
      | _ => none
    | .dup2 => match st with
      | .inl a :: .inr (.inl b) :: s => some (k, lv, .inl a :: .inr (.inl b) :: .inl a :: .inr (.inl b) :: s)
      | _ => none
    | .pop => match st with
      | .inl _ :: s => some (k, lv, s)
      | _ => none
    | .goto _ => some (am_seek r1 cd, lv, st)
    | .getfield _ => match st with
      | .inr (.inl a) :: s => match g_is a 0 r1 with
        | true => match x.toBitVec.toNat with
          | 1 => match g_ref p a r2 with
            | some q => some (k, lv, .inr (.inl q) :: s)
            | none => none
          | _ => some (k, lv, .inl (sg a r2) :: s)
        | false => none
      | _ => none
    | _ => none
def g_px (p : Nat → Nat) (sg : Mg) (cd : List am_CE) : Nat → List am_CE → List (Option AV) → List AV → Option (List am_CE × List (Option AV) × List AV)
  | 0, k, lv, st => some (k, lv, st)
  | _ + 1, [], _, _ => none
  | n + 1, q :: k, lv, st => match g_p1 p sg cd k q lv st with
    | some (k', lv', st') => g_px p sg cd n k' lv' st'
    | none => none
set_option maxHeartbeats 2000000 in
theorem g_p1_ok {X : Nat × (Nat → Int32)} {C : Nat → List AV → am_M → am_R → Prop} {hs : List (Nat × Nat × Nat)} {p : Nat → Nat} {sg : Mg} {cd k k' : List am_CE} {q : am_CE} {lv lv' : List (Option AV)} {st st' : List AV} {kc ks : Nat} {N : am_K} {E : am_R → Prop} (h : g_p1 p sg cd k q lv st = some (k', lv', st')) (hN : N k' lv' st' (gE p, sg) kc ks) : am_stp X am_SL C cd hs k q lv st (gE p, sg) kc ks N E := by
  obtain ⟨pc, i, nx, r1, r2, x⟩ := q
  cases i
  case getfield j =>
    simp only [g_p1] at h
    split at h
    · rename_i a s
      split at h
      · rename_i hg
        split at h
        · rename_i hx
          split at h
          · rename_i q hq
            cases h
            refine ⟨g_A hg (by decide), ?_⟩
            simp only [hx]
            exact ⟨q, hq, hN⟩
          · cases h
        · rename_i hx
          cases h
          refine ⟨g_A hg (by decide), ?_⟩
          simp only
          exact hN
      · cases h
    · cases h
  case dup =>
    simp only [g_p1] at h
    split at h
    · cases h; exact ⟨rfl, hN⟩
    · cases h; exact ⟨rfl, hN⟩
    · cases h
  case dup2 =>
    simp only [g_p1] at h
    split at h
    · cases h; exact ⟨rfl, rfl, hN⟩
    · cases h
  case pop =>
    simp only [g_p1] at h
    split at h
    · cases h; exact ⟨rfl, hN⟩
    · cases h
  case astore =>
    simp only [g_p1] at h
    split at h
    · cases h; exact ⟨rfl, hN⟩
    · cases h
  case astore_n =>
    simp only [g_p1] at h
    split at h
    · cases h; exact ⟨rfl, hN⟩
    · cases h
  case iload =>
    simp only [g_p1] at h
    split at h
    · rename_i e
      cases h
      simp only [am_stp, e]
      exact hN
    · cases h
  case iload_n =>
    simp only [g_p1] at h
    split at h
    · rename_i e
      cases h
      simp only [am_stp, e]
      exact hN
    · cases h
  case aload =>
    simp only [g_p1] at h
    split at h
    · rename_i e
      cases h
      simp only [am_stp, e]
      exact hN
    · cases h
  case aload_n =>
    simp only [g_p1] at h
    split at h
    · rename_i e
      cases h
      simp only [am_stp, e]
      exact hN
    · cases h
  case iinc =>
    simp only [g_p1] at h
    split at h
    · rename_i e
      cases h
      simp only [am_stp, e]
      exact hN
    · cases h
  case ldc => cases r1 with
    | zero => simp only [g_p1] at h; cases h; exact hN
    | succ r1 => simp only [g_p1] at h; cases h; exact hN
  case ldc_w => cases r1 with
    | zero => simp only [g_p1] at h; cases h; exact hN
    | succ r1 => simp only [g_p1] at h; cases h; exact hN
  case iconst => simp only [g_p1] at h; cases h; exact hN
  case bipush => simp only [g_p1] at h; cases h; exact hN
  case sipush => simp only [g_p1] at h; cases h; exact hN
  case goto => simp only [g_p1] at h; cases h; exact hN
  all_goals first | (simp only [g_p1] at h; cases h; done) | (simp only [g_p1] at h; split at h <;> cases h; exact hN)
def gW (X : Nat × (Nat → Int32)) (d : Nat) (cd : List am_CE) (i : Nat) (lv : List (Option AV)) (st : List AV) (p : Nat → Nat) (sg : Mg) (Q : am_R → Prop) : Prop := ∃ r, am_Go X (am_Call X am_SL am_mt d) cd [] (cd.drop i) lv st (gE p, sg) 0 0 r ∧ Q r
/-- a call: how it ends -/
def gF (X : Nat × (Nat → Int32)) (d y : Nat) (args : List AV) (p : Nat → Nat) (sg : Mg) (Q : am_R → Prop) : Prop := ∃ r, am_Call X am_SL am_mt d y args (gE p, sg) r ∧ Q r
section GG
variable {X : Nat × (Nat → Int32)} {d : Nat} {cd : List am_CE} {i : Nat} {lv : List (Option AV)} {st : List AV} {p : Nat → Nat} {sg : Mg} {Q : am_R → Prop}
def gN (X : Nat × (Nat → Int32)) (d : Nat) (cd : List am_CE) (Q : am_R → Prop) : am_K := fun k' lv' st' M' kc' ks' => ∃ r, am_Go X (am_Call X am_SL am_mt d) cd [] k' lv' st' M' kc' ks' r ∧ Q r
theorem g_stp {q : am_CE} (h : cd.drop i = q :: cd.drop (i + 1)) (hs : am_stp X am_SL (am_Call X am_SL am_mt d) cd [] (cd.drop (i + 1)) q lv st (gE p, sg) 0 0 (gN X d cd Q) Q) : gW X d cd i lv st p sg Q := by
  unfold gW
  rw [h]
  rcases am_stp_pick hs with ⟨k', lv', st', M', kc', ks', ⟨r, h1, h2⟩, g⟩ | ⟨r', h1, g⟩
  · exact ⟨r, am_go (g _ _ h1), h2⟩
  · exact ⟨r', am_go (g _ _ rfl), h1⟩
theorem g_px_ok : ∀ (n : Nat) {k k' : List am_CE} {lv lv' : List (Option AV)} {st st' : List AV} {r : am_R}, g_px p sg cd n k lv st = some (k', lv', st') → am_Go X (am_Call X am_SL am_mt d) cd [] k' lv' st' (gE p, sg) 0 0 r → am_Go X (am_Call X am_SL am_mt d) cd [] k lv st (gE p, sg) 0 0 r
  | 0, _, _, _, _, _, _, _, h, g => by
    simp only [g_px, Option.some.injEq, Prod.mk.injEq] at h
    obtain ⟨rfl, rfl, rfl⟩ := h
    exact g
  | _ + 1, [], _, _, _, _, _, _, h, _ => by cases h
  | n + 1, q :: k, k', lv, lv', st, st', r, h, g => by
    simp only [g_px] at h
    split at h
    · rename_i k1 lv1 st1 e
      exact am_go (g_p1_ok e (g_px_ok n h g))
    · cases h
/-- n rows that need nothing -/
theorem g_pure (n : Nat) {i' : Nat} {lv' : List (Option AV)} {st' : List AV} (h : g_px p sg cd n (cd.drop i) lv st = some (cd.drop i', lv', st')) (g : gW X d cd i' lv' st' p sg Q) : gW X d cd i lv st p sg Q := by
  obtain ⟨r, h1, h2⟩ := g
  exact ⟨r, g_px_ok n h h1, h2⟩
theorem g_getI {a r1 r2 j pc nx : Nat} {v : Int32} (h : cd.drop i = (pc, .getfield j, nx, r1, r2, 0) :: cd.drop (i + 1)) (hA : am_A (gE p) a 0 r1) (hv : sg a r2 = v) (g : gW X d cd (i + 1) lv (vI v :: st) p sg Q) : gW X d cd i lv (vR a :: st) p sg Q := by
  subst hv
  exact g_stp h ⟨hA, g⟩
theorem g_getR {a r1 r2 j pc nx q : Nat} (h : cd.drop i = (pc, .getfield j, nx, r1, r2, 1) :: cd.drop (i + 1)) (hA : am_A (gE p) a 0 r1) (hv : g_ref p a r2 = some q) (g : gW X d cd (i + 1) lv (vR q :: st) p sg Q) : gW X d cd i lv (vR a :: st) p sg Q := g_stp h ⟨hA, q, hv, g⟩
theorem g_putI {a r1 r2 j pc nx : Nat} {v : Int32} (h : cd.drop i = (pc, .putfield j, nx, r1, r2, 0) :: cd.drop (i + 1)) (hA : am_A (gE p) a 0 r1) (g : gW X d cd (i + 1) lv st p (mu sg a r2 v) Q) : gW X d cd i lv (vI v :: vR a :: st) p sg Q := g_stp h ⟨hA, trivial, g⟩
theorem g_putB {a r1 r2 j pc nx : Nat} {v : Int32} (h : cd.drop i = (pc, .putfield j, nx, r1, r2, 2) :: cd.drop (i + 1)) (hA : am_A (gE p) a 0 r1) (hv : vp_nar .boolean v = v) (g : gW X d cd (i + 1) lv st p (mu sg a r2 v) Q) : gW X d cd i lv (vI v :: vR a :: st) p sg Q := g_stp h ⟨hA, hv, g⟩
theorem g_idx {e : Int32} {k n : Nat} (he : e = nI k) (hk : k < n) (hn : n < 2147483648) : vp_in e n ∧ e.toNatClampNeg = k := by
  subst he
  exact ⟨vp_in_nI hk hn, nI_clamp (Nat.lt_trans hk hn)⟩
theorem g_ald {a n k pc nx r1 r2 : Nat} {x e v : Int32} (h : cd.drop i = (pc, .iaload, nx, r1, r2, x) :: cd.drop (i + 1)) (hA : am_A (gE p) a 1 n) (hn : n < 2147483648) (he : e = nI k) (hk : k < n) (hv : sg a k = v) (g : gW X d cd (i + 1) lv (vI v :: st) p sg Q) : gW X d cd i lv (vI e :: vR a :: st) p sg Q := by
  obtain ⟨h1, h2⟩ := g_idx he hk hn
  subst hv
  refine g_stp h ⟨n, hA, h1, ?_⟩
  rw [h2]
  exact g
theorem g_ast {a n k pc nx r1 r2 : Nat} {x e v : Int32} (h : cd.drop i = (pc, .iastore, nx, r1, r2, x) :: cd.drop (i + 1)) (hA : am_A (gE p) a 1 n) (hn : n < 2147483648) (he : e = nI k) (hk : k < n) (g : gW X d cd (i + 1) lv st p (mu sg a k v) Q) : gW X d cd i lv (vI v :: vI e :: vR a :: st) p sg Q := by
  obtain ⟨h1, h2⟩ := g_idx he hk hn
  refine g_stp h ⟨n, hA, h1, ?_⟩
  rw [h2]
  exact g
theorem g_bald {a n k kd pc nx r1 r2 : Nat} {x e v : Int32} (h : cd.drop i = (pc, .baload, nx, r1, r2, x) :: cd.drop (i + 1)) (hkd : kd = 2 ∨ kd = 3) (hA : am_A (gE p) a kd n) (hn : n < 2147483648) (he : e = nI k) (hk : k < n) (hv : sg a k = v) (g : gW X d cd (i + 1) lv (vI v :: st) p sg Q) : gW X d cd i lv (vI e :: vR a :: st) p sg Q := by
  obtain ⟨h1, h2⟩ := g_idx he hk hn
  subst hv
  refine g_stp h ⟨kd, n, hkd, hA, h1, ?_⟩
  rw [h2]
  exact g
theorem g_bast2 {a n k pc nx r1 r2 : Nat} {x e v : Int32} (h : cd.drop i = (pc, .bastore, nx, r1, r2, x) :: cd.drop (i + 1)) (hA : am_A (gE p) a 2 n) (hn : n < 2147483648) (he : e = nI k) (hk : k < n) (g : gW X d cd (i + 1) lv st p (mu sg a k (vp_nar .byte v)) Q) : gW X d cd i lv (vI v :: vI e :: vR a :: st) p sg Q := by
  obtain ⟨h1, h2⟩ := g_idx he hk hn
  refine g_stp h ⟨n, h1, Or.inl ⟨hA, ?_⟩⟩
  rw [h2]
  exact g
theorem g_bast3 {a n k pc nx r1 r2 : Nat} {x e v : Int32} (h : cd.drop i = (pc, .bastore, nx, r1, r2, x) :: cd.drop (i + 1)) (hA : am_A (gE p) a 3 n) (hn : n < 2147483648) (he : e = nI k) (hk : k < n) (hv : vp_nar .boolean v = v) (g : gW X d cd (i + 1) lv st p (mu sg a k v) Q) : gW X d cd i lv (vI v :: vI e :: vR a :: st) p sg Q := by
  obtain ⟨h1, h2⟩ := g_idx he hk hn
  refine g_stp h ⟨n, h1, Or.inr ⟨hA, ?_⟩⟩
  rw [h2, hv]
  exact g
theorem g_aald {a n k kd q pc nx r1 r2 : Nat} {x e : Int32} (h : cd.drop i = (pc, .aaload, nx, r1, r2, x) :: cd.drop (i + 1)) (hkd : kd = 5 ∨ kd = 6) (hA : am_A (gE p) a kd n) (hn : n < 2147483648) (he : e = nI k) (hk : k < n) (hv : g_ref p a k = some q) (g : gW X d cd (i + 1) lv (vR q :: st) p sg Q) : gW X d cd i lv (vI e :: vR a :: st) p sg Q := by
  obtain ⟨h1, h2⟩ := g_idx he hk hn
  refine g_stp h ⟨kd, n, q, hkd, hA, h1, ?_, g⟩
  rw [h2]
  exact hv
theorem g_len {a n kd pc nx r1 r2 : Nat} {x : Int32} (h : cd.drop i = (pc, .arraylength, nx, r1, r2, x) :: cd.drop (i + 1)) (h0 : kd ≠ 0) (h6 : kd ≤ 6) (hA : am_A (gE p) a kd n) (g : gW X d cd (i + 1) lv (vI (nI n) :: st) p sg Q) : gW X d cd i lv (vR a :: st) p sg Q := g_stp h ⟨kd, n, h0, h6, hA, g⟩
def g_cd (c : ClassFile.Cond) (x y : Int32) : Prop := match c with
  | .eq => x = y
  | .ne => ¬ x = y
  | .lt => x < y
  | .ge => y ≤ x
  | .gt => y < x
  | .le => x ≤ y
theorem g_am_if {c : ClassFile.Cond} {x y : Int32} {A B P : Prop} (hP : g_cd c x y ↔ P) (hA : P → A) (hB : ¬ P → B) : am_if c x y A B := by
  cases c
  case ne => exact ⟨fun h => hA (hP.mp h), fun h => hB (fun h1 => hP.mpr h1 h)⟩
  all_goals exact ⟨fun h => hA (hP.mp h), fun h => hB (fun h1 => h (hP.mpr h1))⟩
theorem g_if1 {c : ClassFile.Cond} {off : Int} {pc nx r1 r2 i' : Nat} {x a : Int32} {P : Prop} (h : cd.drop i = (pc, .ifCond c off, nx, r1, r2, x) :: cd.drop (i + 1)) (ht : am_seek r1 cd = cd.drop i') (hP : g_cd c a 0 ↔ P) (hA : P → gW X d cd i' lv st p sg Q) (hB : ¬ P → gW X d cd (i + 1) lv st p sg Q) : gW X d cd i lv (vI a :: st) p sg Q := by
  refine g_stp h (g_am_if hP ?_ hB)
  rw [ht]
  exact hA
theorem g_if2 {c : ClassFile.Cond} {off : Int} {pc nx r1 r2 i' : Nat} {x a b : Int32} {P : Prop} (h : cd.drop i = (pc, .if_icmp c off, nx, r1, r2, x) :: cd.drop (i + 1)) (ht : am_seek r1 cd = cd.drop i') (hP : g_cd c a b ↔ P) (hA : P → gW X d cd i' lv st p sg Q) (hB : ¬ P → gW X d cd (i + 1) lv st p sg Q) : gW X d cd i lv (vI b :: vI a :: st) p sg Q := by
  refine g_stp h (g_am_if hP ?_ hB)
  rw [ht]
  exact hA
theorem g_rem {pc nx r1 r2 : Nat} {x a b : Int32} (h : cd.drop i = (pc, .irem, nx, r1, r2, x) :: cd.drop (i + 1)) (hb : ¬ b = 0) (g : gW X d cd (i + 1) lv (vI (a - a / b * b) :: st) p sg Q) : gW X d cd i lv (vI b :: vI a :: st) p sg Q := g_stp h ⟨hb, g⟩
theorem g_div {pc nx r1 r2 : Nat} {x a b : Int32} (h : cd.drop i = (pc, .idiv, nx, r1, r2, x) :: cd.drop (i + 1)) (hb : ¬ b = 0) (g : gW X d cd (i + 1) lv (vI (a / b) :: st) p sg Q) : gW X d cd i lv (vI b :: vI a :: st) p sg Q := g_stp h ⟨hb, g⟩
theorem g_iret {pc nx r2 : Nat} {x v : Int32} (h : cd.drop i = (pc, .ireturn, nx, 0, r2, x) :: cd.drop (i + 1)) (g : Q (gRv p sg v)) : gW X d cd i lv [vI v] p sg Q := g_stp h ⟨rfl, trivial, g⟩
theorem g_bret {pc nx r2 : Nat} {x v : Int32} (h : cd.drop i = (pc, .ireturn, nx, 2, r2, x) :: cd.drop (i + 1)) (hv : vp_nar .boolean v = v) (g : Q (gRv p sg v)) : gW X d cd i lv [vI v] p sg Q := g_stp h ⟨rfl, hv, g⟩
theorem g_vret {pc nx r1 r2 : Nat} {x : Int32} (h : cd.drop i = (pc, .return_, nx, r1, r2, x) :: cd.drop (i + 1)) (g : Q (gR0 p sg)) : gW X d cd i lv [] p sg Q := g_stp h ⟨rfl, g⟩
theorem g_thr {pc nx r1 r2 j : Nat} {x : Int32} (h : cd.drop i = (pc, .new j, nx, r1, r2, x) :: cd.drop (i + 1)) (hs : (st.map am_cat).sum ≤ 8) (g : Q (gRx p sg r2)) : gW X d cd i lv st p sg Q := g_stp h ⟨rfl, hs, g⟩
theorem g_slen {pc nx j0 j : Nat} {x : Int32} (h : cd.drop i = (pc, .invokevirtual j0, nx, 0, 0, x) :: cd.drop (i + 1)) (hj : j < 77) (hs : (st.map am_cat).sum ≤ 8) (g : gW X d cd (i + 1) lv (vI (nI (am_SL j).length) :: st) p sg Q) : gW X d cd i lv (vS j :: st) p sg Q := g_stp h ⟨hj, hs, g⟩
theorem g_schr {pc nx j0 j k : Nat} {x e : Int32} (h : cd.drop i = (pc, .invokevirtual j0, nx, 0, 1, x) :: cd.drop (i + 1)) (hj : j < 77) (hs : (st.map am_cat).sum ≤ 8) (hn : (am_SL j).length < 2147483648) (he : e = nI k) (hk : k < (am_SL j).length) (g : gW X d cd (i + 1) lv (vI ((am_SL j).getD k 0) :: st) p sg Q) : gW X d cd i lv (vI e :: vS j :: st) p sg Q := by
  obtain ⟨h1, h2⟩ := g_idx he hk hn
  refine g_stp h ⟨hj, hs, h1, ?_⟩
  rw [h2]
  exact g
/-- what a call gives back, and what then comes -/
def gK (X : Nat × (Nat → Int32)) (d : Nat) (cd : List am_CE) (i : Nat) (lv : List (Option AV)) (st : List AV) (Q : am_R → Prop) (r : am_R) : Prop := (∃ v p' sg', r = gRv p' sg' v ∧ gW X d cd i lv (vI v :: st) p' sg' Q) ∨ (∃ p' sg', r = gR0 p' sg' ∧ gW X d cd i lv st p' sg' Q) ∨ ∃ p' sg' e, r = gRx p' sg' e ∧ Q (gRx p' sg' e)
theorem gK_ret {k : List am_CE} {r : am_R} (hk : k = cd.drop i) (h : gK X d cd i lv st Q r) : am_ret cd [] k lv st 0 0 (gN X d cd Q) Q r := by
  subst hk
  rcases h with ⟨v, p', sg', rfl, h⟩ | ⟨p', sg', rfl, h⟩ | ⟨p', sg', e, rfl, h⟩
  · exact h
  · exact h
  · exact h
theorem g_calV {pc nx y na j : Nat} {x : Int32} {args rest : List AV} {Q' : am_R → Prop} (h : cd.drop i = (pc, .invokevirtual j, nx, na + 1, y, x) :: cd.drop (i + 1)) (hst : st = args.reverse ++ rest) (hl : args.length = na + 1) (hs : (rest.map am_cat).sum ≤ 8) (hf : gF X d y args p sg Q') (g : ∀ r, Q' r → gK X d cd (i + 1) lv rest Q r) : gW X d cd i lv st p sg Q := by
  obtain ⟨r, h1, h2⟩ := hf
  subst hst
  have e1 : (args.reverse ++ rest).take (na + 1) = args.reverse := by rw [← hl]; simp
  have e2 : (args.reverse ++ rest).drop (na + 1) = rest := by rw [← hl]; simp
  refine g_stp h ⟨by simp [← hl], by rw [e2]; exact hs, r, ?_, ?_⟩
  · rw [e1, List.reverse_reverse]
    exact h1
  · rw [e2]
    exact gK_ret rfl (g r h2)
theorem g_calS {pc nx y na j : Nat} {x : Int32} {args rest : List AV} {Q' : am_R → Prop} (h : cd.drop i = (pc, .invokestatic j, nx, na + 1, y, x) :: cd.drop (i + 1)) (hst : st = args.reverse ++ rest) (hl : args.length = na + 1) (hs : (rest.map am_cat).sum ≤ 8) (hf : gF X d y args p sg Q') (g : ∀ r, Q' r → gK X d cd (i + 1) lv rest Q r) : gW X d cd i lv st p sg Q := by
  obtain ⟨r, h1, h2⟩ := hf
  subst hst
  have e1 : (args.reverse ++ rest).take (na + 1) = args.reverse := by rw [← hl]; simp
  have e2 : (args.reverse ++ rest).drop (na + 1) = rest := by rw [← hl]; simp
  refine g_stp h ⟨by simp [← hl], by rw [e2]; exact hs, r, ?_, ?_⟩
  · rw [e1, List.reverse_reverse]
    exact h1
  · rw [e2]
    exact gK_ret rfl (g r h2)
theorem gK_v {v : Int32} {p' : Nat → Nat} {sg' : Mg} (h : gW X d cd i lv (vI v :: st) p' sg' Q) : gK X d cd i lv st Q (gRv p' sg' v) := Or.inl ⟨v, p', sg', rfl, h⟩
theorem gK_0 {p' : Nat → Nat} {sg' : Mg} (h : gW X d cd i lv st p' sg' Q) : gK X d cd i lv st Q (gR0 p' sg') := Or.inr (Or.inl ⟨p', sg', rfl, h⟩)
theorem gK_x {e : Nat} {p' : Nat → Nat} {sg' : Mg} (h : Q (gRx p' sg' e)) : gK X d cd i lv st Q (gRx p' sg' e) := Or.inr (Or.inr ⟨p', sg', e, rfl, h⟩)
/-- a method is entered -/
theorem g_in {y nL rc : Nat} {args : List AV} (hm : am_mt y = (cd, nL, rc, [])) (hr : am_recv rc (gE p) args) (hc : ∀ v ∈ args, am_cat v = 1) (g : gW X d cd 0 (am_lv nL args) [] p sg Q) : gF X (d + 1) y args p sg Q := by
  obtain ⟨r, h1, h2⟩ := g
  refine ⟨r, ?_, h2⟩
  show am_recv (am_mt y).2.2.1 _ _ ∧ _
  rw [hm]
  exact ⟨hr, hc, h1⟩
theorem gF_mono {y : Nat} {args : List AV} {Q' : am_R → Prop} (h : gF X d y args p sg Q) (g : ∀ r, Q r → Q' r) : gF X d y args p sg Q' := by
  obtain ⟨r, h1, h2⟩ := h
  exact ⟨r, h1, g r h2⟩
theorem gW_eq {lv' : List (Option AV)} {st' : List AV} {sg' : Mg} (h1 : lv = lv') (h2 : st = st') (h3 : sg = sg') (g : gW X d cd i lv' st' p sg' Q) : gW X d cd i lv st p sg Q := by
  subst h1 h2 h3
  exact g
end GG
/-! numbers -/
theorem g_add {a b : Int32} {m n : Nat} (ha : a = nI m) (hb : b = nI n) : a + b = nI (m + n) := by subst ha hb; exact nI_add m n
theorem g_mul {a b : Int32} {m n : Nat} (ha : a = nI m) (hb : b = nI n) : a * b = nI (m * n) := by subst ha hb; exact (Int32.ofNat_mul m n).symm
theorem g_sub {a b : Int32} {m n : Nat} (ha : a = nI m) (hb : b = nI n) (h : n ≤ m) : a - b = nI (m - n) := by
  subst ha hb
  have e : nI m = nI (m - n) + nI n := by rw [nI_add, Nat.sub_add_cancel h]
  rw [e, Int32.add_sub_cancel]
theorem g_ltN {a b : Int32} {m n : Nat} (ha : a = nI m) (hb : b = nI n) (hm : m < 2147483648) (hn : n < 2147483648) : g_cd .lt a b ↔ m < n := by subst ha hb; exact nI_ltI hm hn
theorem g_geN {a b : Int32} {m n : Nat} (ha : a = nI m) (hb : b = nI n) (hm : m < 2147483648) (hn : n < 2147483648) : g_cd .ge a b ↔ n ≤ m := by subst ha hb; exact nI_leI hn hm
theorem g_gtN {a b : Int32} {m n : Nat} (ha : a = nI m) (hb : b = nI n) (hm : m < 2147483648) (hn : n < 2147483648) : g_cd .gt a b ↔ n < m := by subst ha hb; exact nI_ltI hn hm
theorem g_leN {a b : Int32} {m n : Nat} (ha : a = nI m) (hb : b = nI n) (hm : m < 2147483648) (hn : n < 2147483648) : g_cd .le a b ↔ m ≤ n := by subst ha hb; exact nI_leI hm hn
theorem g_eqN {a b : Int32} {m n : Nat} (ha : a = nI m) (hb : b = nI n) (hm : m < 2147483648) (hn : n < 2147483648) : g_cd .eq a b ↔ m = n := by subst ha hb; exact nI_eq hm hn
theorem g_neN {a b : Int32} {m n : Nat} (ha : a = nI m) (hb : b = nI n) (hm : m < 2147483648) (hn : n < 2147483648) : g_cd .ne a b ↔ ¬ m = n := by subst ha hb; exact not_congr (nI_eq hm hn)
theorem g_neB {P : Prop} {h : Decidable P} : g_cd .ne (@ite Int32 P h 1 0) 0 ↔ P := by
  unfold g_cd
  by_cases hp : P <;> simp [hp]
theorem g_eqB {P : Prop} {h : Decidable P} : g_cd .eq (@ite Int32 P h 1 0) 0 ↔ ¬ P := by
  unfold g_cd
  by_cases hp : P <;> simp [hp]
theorem g_nar1 : vp_nar .boolean 1 = 1 := by decide +kernel
theorem g_nar0 : vp_nar .boolean 0 = 0 := by decide +kernel
theorem g_narB {P : Prop} {h : Decidable P} : vp_nar .boolean (@ite Int32 P h 1 0) = @ite Int32 P h 1 0 := by
  by_cases hp : P
  · rw [if_pos hp]; exact g_nar1
  · rw [if_neg hp]; exact g_nar0
