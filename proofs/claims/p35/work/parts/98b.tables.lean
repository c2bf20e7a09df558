set_option maxRecDepth 20000 in
theorem lwi_wsL_law0_r17 : ∀ w ∈ wsL_law0_r17, w ∈ lw_tbl := lw_in2 _ [(3, 171), (3, 172), (3, 173), (3, 174), (3, 175), (3, 176), (3, 177), (1, 77), (1, 82), (1, 85), (1, 88), (1, 91), (1, 94), (1, 97), (1, 99), (1, 101), (3, 178), (3, 179), (3, 180), (3, 181), (3, 182), (3, 183), (3, 184), (3, 185)] (by decide +kernel)
set_option maxRecDepth 20000 in
theorem lwi_wsL_law0_r18 : ∀ w ∈ wsL_law0_r18, w ∈ lw_tbl := lw_in2 _ [(3, 186), (3, 16), (3, 17), (3, 18), (3, 19), (3, 27), (3, 20), (3, 21), (3, 22), (3, 23), (3, 28), (3, 30), (0, 6), (3, 31), (3, 44), (3, 46), (0, 8), (3, 47), (3, 64), (2, 206), (2, 207), (2, 208), (2, 209), (2, 175)] (by decide +kernel)
set_option maxRecDepth 20000 in
theorem lwi_wsL_law0_r19 : ∀ w ∈ wsL_law0_r19, w ∈ lw_tbl := lw_in2 _ [(2, 176), (2, 177), (2, 178), (3, 65), (3, 67), (0, 12), (3, 68), (3, 3), (3, 69), (3, 70), (3, 71), (3, 72), (3, 7), (3, 8), (3, 9), (3, 10), (3, 73), (3, 75), (0, 13), (3, 76), (3, 77), (3, 79), (0, 14), (3, 80)] (by decide +kernel)
set_option maxRecDepth 20000 in
theorem lwi_wsL_law0_r20 : ∀ w ∈ wsL_law0_r20, w ∈ lw_tbl := lw_in2 _ [(2, 167), (2, 169), (0, 3), (2, 170), (2, 171), (2, 172), (2, 173), (2, 174), (3, 81), (3, 83), (0, 15), (3, 84), (2, 210), (2, 211), (2, 212), (2, 213), (2, 214), (2, 215), (1, 16), (2, 216), (2, 217), (3, 85), (3, 87), (0, 16)] (by decide +kernel)
set_option maxRecDepth 20000 in
theorem lwi_wsL_law0_r21 : ∀ w ∈ wsL_law0_r21, w ∈ lw_tbl := lw_in2 _ [(3, 88), (3, 89), (3, 90), (3, 91), (3, 92), (3, 93), (3, 94), (3, 95), (3, 96), (1, 15), (3, 97), (3, 98), (3, 99), (3, 100), (2, 202), (2, 203), (2, 204), (2, 205), (2, 218), (2, 220), (0, 5), (2, 221), (2, 222), (2, 223)] (by decide +kernel)
set_option maxRecDepth 20000 in
theorem lwi_wsL_law0_r22 : ∀ w ∈ wsL_law0_r22, w ∈ lw_tbl := lw_in2 _ [(2, 224), (2, 225), (3, 101), (2, 195), (2, 196), (2, 197), (3, 102), (3, 104), (0, 17), (3, 105), (3, 106), (3, 110), (3, 0), (3, 1), (3, 2), (3, 111), (3, 113), (0, 18), (3, 114), (3, 115), (3, 124), (3, 162), (3, 163), (3, 164)] (by decide +kernel)
set_option maxRecDepth 20000 in
theorem lwi_wsL_law0_r23 : ∀ w ∈ wsL_law0_r23, w ∈ lw_tbl := lw_in2 _ [(3, 165), (2, 189), (3, 187), (3, 188), (3, 189), (3, 190), (3, 128), (2, 134), (2, 135), (2, 136), (2, 137), (2, 163), (2, 164), (2, 165), (2, 166), (2, 179), (2, 180), (2, 181), (2, 182), (2, 194), (2, 226), (3, 136), (3, 120), (3, 140)] (by decide +kernel)
set_option maxRecDepth 20000 in
theorem lwi_wsL_law0_r24 : ∀ w ∈ wsL_law0_r24, w ∈ lw_tbl := lw_in2 _ [(2, 227), (2, 228), (2, 229), (2, 230), (2, 239), (3, 11), (3, 12), (3, 13), (3, 14), (3, 116), (3, 132), (4, 92), (4, 93), (4, 94), (4, 102), (4, 103), (4, 95), (4, 96), (4, 97), (4, 98), (4, 99), (4, 100), (4, 101), (4, 104)] (by decide +kernel)
set_option maxRecDepth 20000 in
theorem lwi_wsX60 : ∀ w ∈ wsX60, w ∈ lw_tbl := lw_in2 _ [(2, 9), (2, 11), (2, 13)] (by decide +kernel)
set_option maxRecDepth 20000 in
theorem lwi_wsX00 : ∀ w ∈ wsX00, w ∈ lw_tbl := lw_in2 _ [(1, 55), (1, 57), (1, 59)] (by decide +kernel)
set_option maxRecDepth 20000 in
theorem lwi_wsX10 : ∀ w ∈ wsX10, w ∈ lw_tbl := lw_in2 _ [(1, 221), (1, 223), (1, 225), (1, 227), (1, 229), (1, 231), (1, 233), (1, 235), (1, 237), (1, 239), (2, 1), (2, 3)] (by decide +kernel)
set_option maxRecDepth 20000 in
theorem lwi_wsX30 : ∀ w ∈ wsX30, w ∈ lw_tbl := lw_in2 _ [(1, 43), (1, 45), (1, 47)] (by decide +kernel)
set_option maxRecDepth 20000 in
theorem lwi_wsX40 : ∀ w ∈ wsX40, w ∈ lw_tbl := lw_in2 _ [(1, 103), (1, 105), (1, 107), (1, 109), (1, 111), (1, 113), (1, 115), (1, 117), (1, 119), (1, 121), (1, 123)] (by decide +kernel)
set_option maxRecDepth 20000 in
theorem lwi_wsX50 : ∀ w ∈ wsX50, w ∈ lw_tbl := lw_in2 _ [(1, 163), (1, 165), (1, 167), (1, 169), (1, 171), (1, 173)] (by decide +kernel)
set_option maxRecDepth 20000 in
theorem lwi_wsX20 : ∀ w ∈ wsX20, w ∈ lw_tbl := lw_in2 _ [(1, 143), (1, 145)] (by decide +kernel)
