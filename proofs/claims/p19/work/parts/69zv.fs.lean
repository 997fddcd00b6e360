/-! ===== steps that a line fits: what happens from place to place ===== -/
def sg_if_x_Z : List sg_z := [(0, [], [.inl (false, (0, .ofNat 0, .ofNat 0))], [(2, 0, (0, .ofNat 0, .ofNat 0), (0, .ofNat 0, .ofNat 0), (0, .ofNat 0, .ofNat 0)), (2, 0, (8, .ofNat 1, .ofNat 0), (4, .ofNat 1, .ofNat 0), (0, .ofNat 0, .ofNat 0)), (0, 3, (2, .ofNat 1, .ofNat 0), (8, .ofNat 1, .ofNat 0), (0, .ofNat 0, .ofNat 0)), (2, 3, (7, .ofNat 1, .ofNat 0), (0, .ofNat 0, .ofNat 0), (0, .ofNat 0, .ofNat 0)), (0, 4, (2, .ofNat 1, .ofNat 0), (6, .ofNat 1, .ofNat 0), (0, .ofNat 0, .ofNat 0)), (0, 4, (3, .ofNat 1, .ofNat 0), (5, .ofNat 1, .ofNat 0), (0, .ofNat 0, .ofNat 0)), (0, 3, (3, .ofNat 1, .ofNat 0), (4, .ofNat 1, .ofNat 0), (0, .ofNat 0, .ofNat 0))], [(1, [(.ofNat 0, .ofNat 15)]), (2, [(.ofNat 0, .ofNat 7)]), (3, [(.ofNat 0, .ofNat 7)]), (4, [(.ofNat 0, .ofNat 1)]), (5, [(.ofNat 0, .ofNat 9)]), (6, [(.ofNat 0, .ofNat 9)]), (7, [(.ofNat 0, .ofNat 9)]), (8, [(.ofNat 0, .ofNat 1)])], [((6, .ofNat 1, .ofNat 0), (5, .negSucc 0, .ofNat 0), (7, .ofNat 1, .ofNat 0))], []),
  (0, [], [.inl (false, (0, .ofNat 0, .ofNat 0))], [(2, 0, (0, .ofNat 0, .ofNat 0), (0, .ofNat 0, .ofNat 0), (0, .ofNat 0, .ofNat 0)), (2, 5, (9, .ofNat 1, .ofNat 0), (0, .ofNat 0, .ofNat 0), (0, .ofNat 0, .ofNat 0)), (0, 4, (2, .ofNat 1, .ofNat 0), (6, .ofNat 1, .ofNat 0), (0, .ofNat 0, .ofNat 0)), (2, 0, (7, .ofNat 1, .ofNat 0), (0, .ofNat 0, .ofNat 0), (0, .ofNat 0, .ofNat 0)), (2, 1, (8, .ofNat 1, .ofNat 0), (4, .ofNat 1, .ofNat 0), (0, .ofNat 0, .ofNat 0)), (0, 3, (2, .ofNat 1, .ofNat 0), (8, .ofNat 1, .ofNat 0), (0, .ofNat 0, .ofNat 0)), (2, 3, (7, .ofNat 1, .ofNat 0), (0, .ofNat 0, .ofNat 0), (0, .ofNat 0, .ofNat 0)), (0, 4, (2, .ofNat 1, .ofNat 0), (6, .ofNat 1, .ofNat 0), (0, .ofNat 0, .ofNat 0)), (0, 4, (3, .ofNat 1, .ofNat 0), (5, .ofNat 1, .ofNat 0), (0, .ofNat 0, .ofNat 0)), (0, 3, (3, .ofNat 1, .ofNat 0), (4, .ofNat 1, .ofNat 0), (0, .ofNat 0, .ofNat 0))], [(1, [(.ofNat 0, .ofNat 15)]), (2, [(.ofNat 0, .ofNat 7)]), (3, [(.ofNat 0, .ofNat 7)]), (4, [(.ofNat 0, .ofNat 1)]), (5, [(.ofNat 0, .ofNat 9)]), (6, [(.ofNat 0, .ofNat 9)]), (7, [(.ofNat 0, .ofNat 0)]), (8, [(.ofNat 0, .ofNat 1)]), (9, [(.ofNat 0, .ofNat 0)])], [((6, .ofNat 1, .ofNat 0), (5, .ofNat 1, .ofNat 0), (9, .ofNat 1, .ofNat 0)), ((6, .ofNat 1, .ofNat 0), (5, .negSucc 0, .ofNat 0), (7, .ofNat 1, .ofNat 0))], []),
  (0, [], [.inl (false, (0, .ofNat 0, .ofNat 0))], [(2, 0, (0, .ofNat 0, .ofNat 0), (0, .ofNat 0, .ofNat 0), (0, .ofNat 0, .ofNat 0)), (2, 4, (14, .ofNat 1, .ofNat 0), (15, .ofNat 1, .ofNat 0), (0, .ofNat 0, .ofNat 0)), (0, 8, (1, .ofNat 1, .ofNat 0), (15, .ofNat 1, .ofNat 0), (0, .ofNat 0, .ofNat 0)), (2, 3, (14, .ofNat 1, .ofNat 0), (0, .ofNat 0, .ofNat 0), (0, .ofNat 0, .ofNat 0)), (0, 7, (1, .ofNat 1, .ofNat 0), (13, .ofNat 1, .ofNat 0), (0, .ofNat 0, .ofNat 0)), (0, 2, (3, .ofNat 1, .ofNat 0), (11, .ofNat 1, .ofNat 0), (0, .ofNat 0, .ofNat 0)), (0, 2, (2, .ofNat 1, .ofNat 0), (10, .ofNat 1, .ofNat 0), (0, .ofNat 0, .ofNat 0)), (2, 1, (0, .ofNat 0, .ofNat 1), (0, .ofNat 0, .ofNat 0), (0, .ofNat 0, .ofNat 0)), (2, 4, (9, .ofNat 1, .ofNat 0), (0, .ofNat 0, .ofNat 0), (0, .ofNat 0, .ofNat 0)), (0, 4, (2, .ofNat 1, .ofNat 0), (6, .ofNat 1, .ofNat 0), (0, .ofNat 0, .ofNat 0)), (2, 0, (7, .ofNat 1, .ofNat 0), (0, .ofNat 0, .ofNat 0), (0, .ofNat 0, .ofNat 0)), (2, 1, (8, .ofNat 1, .ofNat 0), (4, .ofNat 1, .ofNat 0), (0, .ofNat 0, .ofNat 0)), (0, 3, (2, .ofNat 1, .ofNat 0), (8, .ofNat 1, .ofNat 0), (0, .ofNat 0, .ofNat 0)), (2, 3, (7, .ofNat 1, .ofNat 0), (0, .ofNat 0, .ofNat 0), (0, .ofNat 0, .ofNat 0)), (0, 4, (2, .ofNat 1, .ofNat 0), (6, .ofNat 1, .ofNat 0), (0, .ofNat 0, .ofNat 0)), (0, 4, (3, .ofNat 1, .ofNat 0), (5, .ofNat 1, .ofNat 0), (0, .ofNat 0, .ofNat 0)), (0, 3, (3, .ofNat 1, .ofNat 0), (4, .ofNat 1, .ofNat 0), (0, .ofNat 0, .ofNat 0))], [(1, [(.ofNat 0, .ofNat 15)]), (2, [(.ofNat 0, .ofNat 7)]), (3, [(.ofNat 0, .ofNat 7)]), (4, [(.ofNat 0, .ofNat 1)]), (5, [(.ofNat 0, .ofNat 9)]), (6, [(.ofNat 0, .ofNat 9)]), (7, [(.ofNat 0, .ofNat 0)]), (8, [(.ofNat 0, .ofNat 1)]), (9, [(.ofNat 1, .ofNat 18)]), (10, [(.ofNat 0, .ofNat 1000000)]), (11, [(.ofNat 0, .ofNat 1000000)]), (12, [(.negSucc 999999, .ofNat 1000000)]), (13, [(.ofNat 0, .ofNat 1000000)]), (14, [(.ofNat 1, .ofNat 1000000)]), (15, [(.ofNat 0, .ofNat 1000)])], [((12, .ofNat 1, .ofNat 0), (13, .negSucc 0, .ofNat 0), (14, .ofNat 1, .ofNat 0)), ((10, .ofNat 1, .ofNat 0), (11, .negSucc 0, .ofNat 0), (12, .ofNat 1, .ofNat 0)), ((6, .ofNat 1, .ofNat 0), (5, .ofNat 1, .ofNat 0), (9, .ofNat 1, .ofNat 0)), ((6, .ofNat 1, .ofNat 0), (5, .negSucc 0, .ofNat 0), (7, .ofNat 1, .ofNat 0))], []),
  (0, [], [.inl (false, (0, .ofNat 0, .ofNat 1))], [(2, 1, (0, .ofNat 0, .ofNat 1), (0, .ofNat 0, .ofNat 0), (0, .ofNat 0, .ofNat 0)), (2, 5, (14, .ofNat 1, .ofNat 0), (15, .ofNat 1, .ofNat 0), (0, .ofNat 0, .ofNat 0)), (0, 8, (1, .ofNat 1, .ofNat 0), (15, .ofNat 1, .ofNat 0), (0, .ofNat 0, .ofNat 0)), (2, 3, (14, .ofNat 1, .ofNat 0), (0, .ofNat 0, .ofNat 0), (0, .ofNat 0, .ofNat 0)), (0, 7, (1, .ofNat 1, .ofNat 0), (13, .ofNat 1, .ofNat 0), (0, .ofNat 0, .ofNat 0)), (0, 2, (3, .ofNat 1, .ofNat 0), (11, .ofNat 1, .ofNat 0), (0, .ofNat 0, .ofNat 0)), (0, 2, (2, .ofNat 1, .ofNat 0), (10, .ofNat 1, .ofNat 0), (0, .ofNat 0, .ofNat 0)), (2, 1, (0, .ofNat 0, .ofNat 1), (0, .ofNat 0, .ofNat 0), (0, .ofNat 0, .ofNat 0)), (2, 4, (9, .ofNat 1, .ofNat 0), (0, .ofNat 0, .ofNat 0), (0, .ofNat 0, .ofNat 0)), (0, 4, (2, .ofNat 1, .ofNat 0), (6, .ofNat 1, .ofNat 0), (0, .ofNat 0, .ofNat 0)), (2, 0, (7, .ofNat 1, .ofNat 0), (0, .ofNat 0, .ofNat 0), (0, .ofNat 0, .ofNat 0)), (2, 1, (8, .ofNat 1, .ofNat 0), (4, .ofNat 1, .ofNat 0), (0, .ofNat 0, .ofNat 0)), (0, 3, (2, .ofNat 1, .ofNat 0), (8, .ofNat 1, .ofNat 0), (0, .ofNat 0, .ofNat 0)), (2, 3, (7, .ofNat 1, .ofNat 0), (0, .ofNat 0, .ofNat 0), (0, .ofNat 0, .ofNat 0)), (0, 4, (2, .ofNat 1, .ofNat 0), (6, .ofNat 1, .ofNat 0), (0, .ofNat 0, .ofNat 0)), (0, 4, (3, .ofNat 1, .ofNat 0), (5, .ofNat 1, .ofNat 0), (0, .ofNat 0, .ofNat 0)), (0, 3, (3, .ofNat 1, .ofNat 0), (4, .ofNat 1, .ofNat 0), (0, .ofNat 0, .ofNat 0))], [(1, [(.ofNat 0, .ofNat 15)]), (2, [(.ofNat 0, .ofNat 7)]), (3, [(.ofNat 0, .ofNat 7)]), (4, [(.ofNat 0, .ofNat 1)]), (5, [(.ofNat 0, .ofNat 9)]), (6, [(.ofNat 0, .ofNat 9)]), (7, [(.ofNat 0, .ofNat 0)]), (8, [(.ofNat 0, .ofNat 1)]), (9, [(.ofNat 1, .ofNat 18)]), (10, [(.ofNat 0, .ofNat 1000000)]), (11, [(.ofNat 0, .ofNat 1000000)]), (12, [(.negSucc 999999, .ofNat 1000000)]), (13, [(.ofNat 0, .ofNat 1000000)]), (14, [(.ofNat 0, .ofNat 1000)]), (15, [(.ofNat 0, .ofNat 1000)])], [((12, .ofNat 1, .ofNat 0), (13, .negSucc 0, .ofNat 0), (14, .ofNat 1, .ofNat 0)), ((10, .ofNat 1, .ofNat 0), (11, .negSucc 0, .ofNat 0), (12, .ofNat 1, .ofNat 0)), ((6, .ofNat 1, .ofNat 0), (5, .ofNat 1, .ofNat 0), (9, .ofNat 1, .ofNat 0)), ((6, .ofNat 1, .ofNat 0), (5, .negSucc 0, .ofNat 0), (7, .ofNat 1, .ofNat 0))], []),
  (0, [], [.inl (false, (0, .ofNat 0, .ofNat 0))], [(2, 0, (0, .ofNat 0, .ofNat 0), (0, .ofNat 0, .ofNat 0), (0, .ofNat 0, .ofNat 0)), (2, 4, (14, .negSucc 0, .ofNat 0), (15, .ofNat 1, .ofNat 0), (0, .ofNat 0, .ofNat 0)), (0, 8, (1, .ofNat 1, .ofNat 0), (15, .ofNat 1, .ofNat 0), (0, .ofNat 0, .ofNat 0)), (2, 2, (14, .ofNat 1, .ofNat 0), (0, .ofNat 0, .ofNat 0), (0, .ofNat 0, .ofNat 0)), (0, 7, (1, .ofNat 1, .ofNat 0), (13, .ofNat 1, .ofNat 0), (0, .ofNat 0, .ofNat 0)), (0, 2, (3, .ofNat 1, .ofNat 0), (11, .ofNat 1, .ofNat 0), (0, .ofNat 0, .ofNat 0)), (0, 2, (2, .ofNat 1, .ofNat 0), (10, .ofNat 1, .ofNat 0), (0, .ofNat 0, .ofNat 0)), (2, 1, (0, .ofNat 0, .ofNat 1), (0, .ofNat 0, .ofNat 0), (0, .ofNat 0, .ofNat 0)), (2, 4, (9, .ofNat 1, .ofNat 0), (0, .ofNat 0, .ofNat 0), (0, .ofNat 0, .ofNat 0)), (0, 4, (2, .ofNat 1, .ofNat 0), (6, .ofNat 1, .ofNat 0), (0, .ofNat 0, .ofNat 0)), (2, 0, (7, .ofNat 1, .ofNat 0), (0, .ofNat 0, .ofNat 0), (0, .ofNat 0, .ofNat 0)), (2, 1, (8, .ofNat 1, .ofNat 0), (4, .ofNat 1, .ofNat 0), (0, .ofNat 0, .ofNat 0)), (0, 3, (2, .ofNat 1, .ofNat 0), (8, .ofNat 1, .ofNat 0), (0, .ofNat 0, .ofNat 0)), (2, 3, (7, .ofNat 1, .ofNat 0), (0, .ofNat 0, .ofNat 0), (0, .ofNat 0, .ofNat 0)), (0, 4, (2, .ofNat 1, .ofNat 0), (6, .ofNat 1, .ofNat 0), (0, .ofNat 0, .ofNat 0)), (0, 4, (3, .ofNat 1, .ofNat 0), (5, .ofNat 1, .ofNat 0), (0, .ofNat 0, .ofNat 0)), (0, 3, (3, .ofNat 1, .ofNat 0), (4, .ofNat 1, .ofNat 0), (0, .ofNat 0, .ofNat 0))], [(1, [(.ofNat 0, .ofNat 15)]), (2, [(.ofNat 0, .ofNat 7)]), (3, [(.ofNat 0, .ofNat 7)]), (4, [(.ofNat 0, .ofNat 1)]), (5, [(.ofNat 0, .ofNat 9)]), (6, [(.ofNat 0, .ofNat 9)]), (7, [(.ofNat 0, .ofNat 0)]), (8, [(.ofNat 0, .ofNat 1)]), (9, [(.ofNat 1, .ofNat 18)]), (10, [(.ofNat 0, .ofNat 1000000)]), (11, [(.ofNat 0, .ofNat 1000000)]), (12, [(.negSucc 999999, .ofNat 1000000)]), (13, [(.ofNat 0, .ofNat 1000000)]), (14, [(.negSucc 1999999, .negSucc 0)]), (15, [(.ofNat 0, .ofNat 1000)])], [((12, .ofNat 1, .ofNat 0), (13, .negSucc 0, .ofNat 0), (14, .ofNat 1, .ofNat 0)), ((10, .ofNat 1, .ofNat 0), (11, .negSucc 0, .ofNat 0), (12, .ofNat 1, .ofNat 0)), ((6, .ofNat 1, .ofNat 0), (5, .ofNat 1, .ofNat 0), (9, .ofNat 1, .ofNat 0)), ((6, .ofNat 1, .ofNat 0), (5, .negSucc 0, .ofNat 0), (7, .ofNat 1, .ofNat 0))], []),
  (0, [], [.inl (false, (0, .ofNat 0, .ofNat 1))], [(2, 1, (0, .ofNat 0, .ofNat 1), (0, .ofNat 0, .ofNat 0), (0, .ofNat 0, .ofNat 0)), (2, 5, (14, .negSucc 0, .ofNat 0), (15, .ofNat 1, .ofNat 0), (0, .ofNat 0, .ofNat 0)), (0, 8, (1, .ofNat 1, .ofNat 0), (15, .ofNat 1, .ofNat 0), (0, .ofNat 0, .ofNat 0)), (2, 2, (14, .ofNat 1, .ofNat 0), (0, .ofNat 0, .ofNat 0), (0, .ofNat 0, .ofNat 0)), (0, 7, (1, .ofNat 1, .ofNat 0), (13, .ofNat 1, .ofNat 0), (0, .ofNat 0, .ofNat 0)), (0, 2, (3, .ofNat 1, .ofNat 0), (11, .ofNat 1, .ofNat 0), (0, .ofNat 0, .ofNat 0)), (0, 2, (2, .ofNat 1, .ofNat 0), (10, .ofNat 1, .ofNat 0), (0, .ofNat 0, .ofNat 0)), (2, 1, (0, .ofNat 0, .ofNat 1), (0, .ofNat 0, .ofNat 0), (0, .ofNat 0, .ofNat 0)), (2, 4, (9, .ofNat 1, .ofNat 0), (0, .ofNat 0, .ofNat 0), (0, .ofNat 0, .ofNat 0)), (0, 4, (2, .ofNat 1, .ofNat 0), (6, .ofNat 1, .ofNat 0), (0, .ofNat 0, .ofNat 0)), (2, 0, (7, .ofNat 1, .ofNat 0), (0, .ofNat 0, .ofNat 0), (0, .ofNat 0, .ofNat 0)), (2, 1, (8, .ofNat 1, .ofNat 0), (4, .ofNat 1, .ofNat 0), (0, .ofNat 0, .ofNat 0)), (0, 3, (2, .ofNat 1, .ofNat 0), (8, .ofNat 1, .ofNat 0), (0, .ofNat 0, .ofNat 0)), (2, 3, (7, .ofNat 1, .ofNat 0), (0, .ofNat 0, .ofNat 0), (0, .ofNat 0, .ofNat 0)), (0, 4, (2, .ofNat 1, .ofNat 0), (6, .ofNat 1, .ofNat 0), (0, .ofNat 0, .ofNat 0)), (0, 4, (3, .ofNat 1, .ofNat 0), (5, .ofNat 1, .ofNat 0), (0, .ofNat 0, .ofNat 0)), (0, 3, (3, .ofNat 1, .ofNat 0), (4, .ofNat 1, .ofNat 0), (0, .ofNat 0, .ofNat 0))], [(1, [(.ofNat 0, .ofNat 15)]), (2, [(.ofNat 0, .ofNat 7)]), (3, [(.ofNat 0, .ofNat 7)]), (4, [(.ofNat 0, .ofNat 1)]), (5, [(.ofNat 0, .ofNat 9)]), (6, [(.ofNat 0, .ofNat 9)]), (7, [(.ofNat 0, .ofNat 0)]), (8, [(.ofNat 0, .ofNat 1)]), (9, [(.ofNat 1, .ofNat 18)]), (10, [(.ofNat 0, .ofNat 1000000)]), (11, [(.ofNat 0, .ofNat 1000000)]), (12, [(.negSucc 999999, .ofNat 1000000)]), (13, [(.ofNat 0, .ofNat 1000000)]), (14, [(.negSucc 999, .negSucc 0)]), (15, [(.ofNat 1, .ofNat 1000)])], [((12, .ofNat 1, .ofNat 0), (13, .negSucc 0, .ofNat 0), (14, .ofNat 1, .ofNat 0)), ((10, .ofNat 1, .ofNat 0), (11, .negSucc 0, .ofNat 0), (12, .ofNat 1, .ofNat 0)), ((6, .ofNat 1, .ofNat 0), (5, .ofNat 1, .ofNat 0), (9, .ofNat 1, .ofNat 0)), ((6, .ofNat 1, .ofNat 0), (5, .negSucc 0, .ofNat 0), (7, .ofNat 1, .ofNat 0))], []),
  (0, [], [.inl (false, (0, .ofNat 0, .ofNat 0))], [(2, 0, (0, .ofNat 0, .ofNat 0), (0, .ofNat 0, .ofNat 0), (0, .ofNat 0, .ofNat 0)), (2, 1, (7, .ofNat 1, .ofNat 0), (0, .ofNat 0, .ofNat 2), (0, .ofNat 0, .ofNat 0)), (2, 1, (7, .ofNat 1, .ofNat 0), (0, .ofNat 0, .ofNat 0), (0, .ofNat 0, .ofNat 0)), (2, 1, (8, .ofNat 1, .ofNat 0), (4, .ofNat 1, .ofNat 0), (0, .ofNat 0, .ofNat 0)), (0, 3, (2, .ofNat 1, .ofNat 0), (8, .ofNat 1, .ofNat 0), (0, .ofNat 0, .ofNat 0)), (2, 3, (7, .ofNat 1, .ofNat 0), (0, .ofNat 0, .ofNat 0), (0, .ofNat 0, .ofNat 0)), (0, 4, (2, .ofNat 1, .ofNat 0), (6, .ofNat 1, .ofNat 0), (0, .ofNat 0, .ofNat 0)), (0, 4, (3, .ofNat 1, .ofNat 0), (5, .ofNat 1, .ofNat 0), (0, .ofNat 0, .ofNat 0)), (0, 3, (3, .ofNat 1, .ofNat 0), (4, .ofNat 1, .ofNat 0), (0, .ofNat 0, .ofNat 0))], [(1, [(.ofNat 0, .ofNat 15)]), (2, [(.ofNat 0, .ofNat 7)]), (3, [(.ofNat 0, .ofNat 7)]), (4, [(.ofNat 0, .ofNat 1)]), (5, [(.ofNat 0, .ofNat 9)]), (6, [(.ofNat 0, .ofNat 9)]), (7, [(.ofNat 1, .ofNat 1), (.ofNat 3, .ofNat 9)]), (8, [(.ofNat 0, .ofNat 1)])], [((6, .ofNat 1, .ofNat 0), (5, .negSucc 0, .ofNat 0), (7, .ofNat 1, .ofNat 0))], []),
  (0, [], [.inl (false, (0, .ofNat 0, .ofNat 0))], [(2, 0, (0, .ofNat 0, .ofNat 0), (0, .ofNat 0, .ofNat 0), (0, .ofNat 0, .ofNat 0)), (2, 5, (9, .ofNat 1, .ofNat 0), (0, .ofNat 0, .ofNat 0), (0, .ofNat 0, .ofNat 0)), (0, 4, (2, .ofNat 1, .ofNat 0), (6, .ofNat 1, .ofNat 0), (0, .ofNat 0, .ofNat 0)), (2, 0, (7, .ofNat 1, .ofNat 0), (0, .ofNat 0, .ofNat 2), (0, .ofNat 0, .ofNat 0)), (2, 1, (7, .ofNat 1, .ofNat 0), (0, .ofNat 0, .ofNat 0), (0, .ofNat 0, .ofNat 0)), (2, 1, (8, .ofNat 1, .ofNat 0), (4, .ofNat 1, .ofNat 0), (0, .ofNat 0, .ofNat 0)), (0, 3, (2, .ofNat 1, .ofNat 0), (8, .ofNat 1, .ofNat 0), (0, .ofNat 0, .ofNat 0)), (2, 3, (7, .ofNat 1, .ofNat 0), (0, .ofNat 0, .ofNat 0), (0, .ofNat 0, .ofNat 0)), (0, 4, (2, .ofNat 1, .ofNat 0), (6, .ofNat 1, .ofNat 0), (0, .ofNat 0, .ofNat 0)), (0, 4, (3, .ofNat 1, .ofNat 0), (5, .ofNat 1, .ofNat 0), (0, .ofNat 0, .ofNat 0)), (0, 3, (3, .ofNat 1, .ofNat 0), (4, .ofNat 1, .ofNat 0), (0, .ofNat 0, .ofNat 0))], [(1, [(.ofNat 0, .ofNat 15)]), (2, [(.ofNat 0, .ofNat 7)]), (3, [(.ofNat 0, .ofNat 7)]), (4, [(.ofNat 0, .ofNat 1)]), (5, [(.ofNat 0, .ofNat 9)]), (6, [(.ofNat 0, .ofNat 9)]), (7, [(.ofNat 2, .ofNat 2)]), (8, [(.ofNat 0, .ofNat 1)]), (9, [(.ofNat 0, .ofNat 0)])], [((6, .ofNat 1, .ofNat 0), (5, .ofNat 1, .ofNat 0), (9, .ofNat 1, .ofNat 0)), ((6, .ofNat 1, .ofNat 0), (5, .negSucc 0, .ofNat 0), (7, .ofNat 1, .ofNat 0))], []),
  (0, [], [.inl (false, (0, .ofNat 0, .ofNat 0))], [(2, 0, (0, .ofNat 0, .ofNat 0), (0, .ofNat 0, .ofNat 0), (0, .ofNat 0, .ofNat 0)), (2, 4, (14, .ofNat 1, .ofNat 0), (15, .ofNat 1, .ofNat 0), (0, .ofNat 0, .ofNat 0)), (0, 8, (1, .ofNat 1, .ofNat 0), (15, .ofNat 1, .ofNat 0), (0, .ofNat 0, .ofNat 0)), (2, 3, (14, .ofNat 1, .ofNat 0), (0, .ofNat 0, .ofNat 0), (0, .ofNat 0, .ofNat 0)), (0, 7, (1, .ofNat 1, .ofNat 0), (13, .ofNat 1, .ofNat 0), (0, .ofNat 0, .ofNat 0)), (0, 2, (3, .ofNat 1, .ofNat 0), (11, .ofNat 1, .ofNat 0), (0, .ofNat 0, .ofNat 0)), (0, 2, (2, .ofNat 1, .ofNat 0), (10, .ofNat 1, .ofNat 0), (0, .ofNat 0, .ofNat 0)), (2, 1, (0, .ofNat 0, .ofNat 1), (0, .ofNat 0, .ofNat 0), (0, .ofNat 0, .ofNat 0)), (2, 4, (9, .ofNat 1, .ofNat 0), (0, .ofNat 0, .ofNat 0), (0, .ofNat 0, .ofNat 0)), (0, 4, (2, .ofNat 1, .ofNat 0), (6, .ofNat 1, .ofNat 0), (0, .ofNat 0, .ofNat 0)), (2, 0, (7, .ofNat 1, .ofNat 0), (0, .ofNat 0, .ofNat 2), (0, .ofNat 0, .ofNat 0)), (2, 1, (7, .ofNat 1, .ofNat 0), (0, .ofNat 0, .ofNat 0), (0, .ofNat 0, .ofNat 0)), (2, 1, (8, .ofNat 1, .ofNat 0), (4, .ofNat 1, .ofNat 0), (0, .ofNat 0, .ofNat 0)), (0, 3, (2, .ofNat 1, .ofNat 0), (8, .ofNat 1, .ofNat 0), (0, .ofNat 0, .ofNat 0)), (2, 3, (7, .ofNat 1, .ofNat 0), (0, .ofNat 0, .ofNat 0), (0, .ofNat 0, .ofNat 0)), (0, 4, (2, .ofNat 1, .ofNat 0), (6, .ofNat 1, .ofNat 0), (0, .ofNat 0, .ofNat 0)), (0, 4, (3, .ofNat 1, .ofNat 0), (5, .ofNat 1, .ofNat 0), (0, .ofNat 0, .ofNat 0)), (0, 3, (3, .ofNat 1, .ofNat 0), (4, .ofNat 1, .ofNat 0), (0, .ofNat 0, .ofNat 0))], [(1, [(.ofNat 0, .ofNat 15)]), (2, [(.ofNat 0, .ofNat 7)]), (3, [(.ofNat 0, .ofNat 7)]), (4, [(.ofNat 0, .ofNat 1)]), (5, [(.ofNat 0, .ofNat 9)]), (6, [(.ofNat 0, .ofNat 9)]), (7, [(.ofNat 2, .ofNat 2)]), (8, [(.ofNat 0, .ofNat 1)]), (9, [(.ofNat 1, .ofNat 18)]), (10, [(.ofNat 0, .ofNat 1000000)]), (11, [(.ofNat 0, .ofNat 1000000)]), (12, [(.negSucc 999999, .ofNat 1000000)]), (13, [(.ofNat 0, .ofNat 1000000)]), (14, [(.ofNat 1, .ofNat 1000000)]), (15, [(.ofNat 0, .ofNat 1000)])], [((12, .ofNat 1, .ofNat 0), (13, .negSucc 0, .ofNat 0), (14, .ofNat 1, .ofNat 0)), ((10, .ofNat 1, .ofNat 0), (11, .negSucc 0, .ofNat 0), (12, .ofNat 1, .ofNat 0)), ((6, .ofNat 1, .ofNat 0), (5, .ofNat 1, .ofNat 0), (9, .ofNat 1, .ofNat 0)), ((6, .ofNat 1, .ofNat 0), (5, .negSucc 0, .ofNat 0), (7, .ofNat 1, .ofNat 0))], []),
  (0, [], [.inl (false, (0, .ofNat 0, .ofNat 1))], [(2, 1, (0, .ofNat 0, .ofNat 1), (0, .ofNat 0, .ofNat 0), (0, .ofNat 0, .ofNat 0)), (2, 5, (14, .ofNat 1, .ofNat 0), (15, .ofNat 1, .ofNat 0), (0, .ofNat 0, .ofNat 0)), (0, 8, (1, .ofNat 1, .ofNat 0), (15, .ofNat 1, .ofNat 0), (0, .ofNat 0, .ofNat 0)), (2, 3, (14, .ofNat 1, .ofNat 0), (0, .ofNat 0, .ofNat 0), (0, .ofNat 0, .ofNat 0)), (0, 7, (1, .ofNat 1, .ofNat 0), (13, .ofNat 1, .ofNat 0), (0, .ofNat 0, .ofNat 0)), (0, 2, (3, .ofNat 1, .ofNat 0), (11, .ofNat 1, .ofNat 0), (0, .ofNat 0, .ofNat 0)), (0, 2, (2, .ofNat 1, .ofNat 0), (10, .ofNat 1, .ofNat 0), (0, .ofNat 0, .ofNat 0)), (2, 1, (0, .ofNat 0, .ofNat 1), (0, .ofNat 0, .ofNat 0), (0, .ofNat 0, .ofNat 0)), (2, 4, (9, .ofNat 1, .ofNat 0), (0, .ofNat 0, .ofNat 0), (0, .ofNat 0, .ofNat 0)), (0, 4, (2, .ofNat 1, .ofNat 0), (6, .ofNat 1, .ofNat 0), (0, .ofNat 0, .ofNat 0)), (2, 0, (7, .ofNat 1, .ofNat 0), (0, .ofNat 0, .ofNat 2), (0, .ofNat 0, .ofNat 0)), (2, 1, (7, .ofNat 1, .ofNat 0), (0, .ofNat 0, .ofNat 0), (0, .ofNat 0, .ofNat 0)), (2, 1, (8, .ofNat 1, .ofNat 0), (4, .ofNat 1, .ofNat 0), (0, .ofNat 0, .ofNat 0)), (0, 3, (2, .ofNat 1, .ofNat 0), (8, .ofNat 1, .ofNat 0), (0, .ofNat 0, .ofNat 0)), (2, 3, (7, .ofNat 1, .ofNat 0), (0, .ofNat 0, .ofNat 0), (0, .ofNat 0, .ofNat 0)), (0, 4, (2, .ofNat 1, .ofNat 0), (6, .ofNat 1, .ofNat 0), (0, .ofNat 0, .ofNat 0)), (0, 4, (3, .ofNat 1, .ofNat 0), (5, .ofNat 1, .ofNat 0), (0, .ofNat 0, .ofNat 0)), (0, 3, (3, .ofNat 1, .ofNat 0), (4, .ofNat 1, .ofNat 0), (0, .ofNat 0, .ofNat 0))], [(1, [(.ofNat 0, .ofNat 15)]), (2, [(.ofNat 0, .ofNat 7)]), (3, [(.ofNat 0, .ofNat 7)]), (4, [(.ofNat 0, .ofNat 1)]), (5, [(.ofNat 0, .ofNat 9)]), (6, [(.ofNat 0, .ofNat 9)]), (7, [(.ofNat 2, .ofNat 2)]), (8, [(.ofNat 0, .ofNat 1)]), (9, [(.ofNat 1, .ofNat 18)]), (10, [(.ofNat 0, .ofNat 1000000)]), (11, [(.ofNat 0, .ofNat 1000000)]), (12, [(.negSucc 999999, .ofNat 1000000)]), (13, [(.ofNat 0, .ofNat 1000000)]), (14, [(.ofNat 0, .ofNat 1000)]), (15, [(.ofNat 0, .ofNat 1000)])], [((12, .ofNat 1, .ofNat 0), (13, .negSucc 0, .ofNat 0), (14, .ofNat 1, .ofNat 0)), ((10, .ofNat 1, .ofNat 0), (11, .negSucc 0, .ofNat 0), (12, .ofNat 1, .ofNat 0)), ((6, .ofNat 1, .ofNat 0), (5, .ofNat 1, .ofNat 0), (9, .ofNat 1, .ofNat 0)), ((6, .ofNat 1, .ofNat 0), (5, .negSucc 0, .ofNat 0), (7, .ofNat 1, .ofNat 0))], []),
  (0, [], [.inl (false, (0, .ofNat 0, .ofNat 0))], [(2, 0, (0, .ofNat 0, .ofNat 0), (0, .ofNat 0, .ofNat 0), (0, .ofNat 0, .ofNat 0)), (2, 4, (14, .negSucc 0, .ofNat 0), (15, .ofNat 1, .ofNat 0), (0, .ofNat 0, .ofNat 0)), (0, 8, (1, .ofNat 1, .ofNat 0), (15, .ofNat 1, .ofNat 0), (0, .ofNat 0, .ofNat 0)), (2, 2, (14, .ofNat 1, .ofNat 0), (0, .ofNat 0, .ofNat 0), (0, .ofNat 0, .ofNat 0)), (0, 7, (1, .ofNat 1, .ofNat 0), (13, .ofNat 1, .ofNat 0), (0, .ofNat 0, .ofNat 0)), (0, 2, (3, .ofNat 1, .ofNat 0), (11, .ofNat 1, .ofNat 0), (0, .ofNat 0, .ofNat 0)), (0, 2, (2, .ofNat 1, .ofNat 0), (10, .ofNat 1, .ofNat 0), (0, .ofNat 0, .ofNat 0)), (2, 1, (0, .ofNat 0, .ofNat 1), (0, .ofNat 0, .ofNat 0), (0, .ofNat 0, .ofNat 0)), (2, 4, (9, .ofNat 1, .ofNat 0), (0, .ofNat 0, .ofNat 0), (0, .ofNat 0, .ofNat 0)), (0, 4, (2, .ofNat 1, .ofNat 0), (6, .ofNat 1, .ofNat 0), (0, .ofNat 0, .ofNat 0)), (2, 0, (7, .ofNat 1, .ofNat 0), (0, .ofNat 0, .ofNat 2), (0, .ofNat 0, .ofNat 0)), (2, 1, (7, .ofNat 1, .ofNat 0), (0, .ofNat 0, .ofNat 0), (0, .ofNat 0, .ofNat 0)), (2, 1, (8, .ofNat 1, .ofNat 0), (4, .ofNat 1, .ofNat 0), (0, .ofNat 0, .ofNat 0)), (0, 3, (2, .ofNat 1, .ofNat 0), (8, .ofNat 1, .ofNat 0), (0, .ofNat 0, .ofNat 0)), (2, 3, (7, .ofNat 1, .ofNat 0), (0, .ofNat 0, .ofNat 0), (0, .ofNat 0, .ofNat 0)), (0, 4, (2, .ofNat 1, .ofNat 0), (6, .ofNat 1, .ofNat 0), (0, .ofNat 0, .ofNat 0)), (0, 4, (3, .ofNat 1, .ofNat 0), (5, .ofNat 1, .ofNat 0), (0, .ofNat 0, .ofNat 0)), (0, 3, (3, .ofNat 1, .ofNat 0), (4, .ofNat 1, .ofNat 0), (0, .ofNat 0, .ofNat 0))], [(1, [(.ofNat 0, .ofNat 15)]), (2, [(.ofNat 0, .ofNat 7)]), (3, [(.ofNat 0, .ofNat 7)]), (4, [(.ofNat 0, .ofNat 1)]), (5, [(.ofNat 0, .ofNat 9)]), (6, [(.ofNat 0, .ofNat 9)]), (7, [(.ofNat 2, .ofNat 2)]), (8, [(.ofNat 0, .ofNat 1)]), (9, [(.ofNat 1, .ofNat 18)]), (10, [(.ofNat 0, .ofNat 1000000)]), (11, [(.ofNat 0, .ofNat 1000000)]), (12, [(.negSucc 999999, .ofNat 1000000)]), (13, [(.ofNat 0, .ofNat 1000000)]), (14, [(.negSucc 1999999, .negSucc 0)]), (15, [(.ofNat 0, .ofNat 1000)])], [((12, .ofNat 1, .ofNat 0), (13, .negSucc 0, .ofNat 0), (14, .ofNat 1, .ofNat 0)), ((10, .ofNat 1, .ofNat 0), (11, .negSucc 0, .ofNat 0), (12, .ofNat 1, .ofNat 0)), ((6, .ofNat 1, .ofNat 0), (5, .ofNat 1, .ofNat 0), (9, .ofNat 1, .ofNat 0)), ((6, .ofNat 1, .ofNat 0), (5, .negSucc 0, .ofNat 0), (7, .ofNat 1, .ofNat 0))], []),
  (0, [], [.inl (false, (0, .ofNat 0, .ofNat 1))], [(2, 1, (0, .ofNat 0, .ofNat 1), (0, .ofNat 0, .ofNat 0), (0, .ofNat 0, .ofNat 0)), (2, 5, (14, .negSucc 0, .ofNat 0), (15, .ofNat 1, .ofNat 0), (0, .ofNat 0, .ofNat 0)), (0, 8, (1, .ofNat 1, .ofNat 0), (15, .ofNat 1, .ofNat 0), (0, .ofNat 0, .ofNat 0)), (2, 2, (14, .ofNat 1, .ofNat 0), (0, .ofNat 0, .ofNat 0), (0, .ofNat 0, .ofNat 0)), (0, 7, (1, .ofNat 1, .ofNat 0), (13, .ofNat 1, .ofNat 0), (0, .ofNat 0, .ofNat 0)), (0, 2, (3, .ofNat 1, .ofNat 0), (11, .ofNat 1, .ofNat 0), (0, .ofNat 0, .ofNat 0)), (0, 2, (2, .ofNat 1, .ofNat 0), (10, .ofNat 1, .ofNat 0), (0, .ofNat 0, .ofNat 0)), (2, 1, (0, .ofNat 0, .ofNat 1), (0, .ofNat 0, .ofNat 0), (0, .ofNat 0, .ofNat 0)), (2, 4, (9, .ofNat 1, .ofNat 0), (0, .ofNat 0, .ofNat 0), (0, .ofNat 0, .ofNat 0)), (0, 4, (2, .ofNat 1, .ofNat 0), (6, .ofNat 1, .ofNat 0), (0, .ofNat 0, .ofNat 0)), (2, 0, (7, .ofNat 1, .ofNat 0), (0, .ofNat 0, .ofNat 2), (0, .ofNat 0, .ofNat 0)), (2, 1, (7, .ofNat 1, .ofNat 0), (0, .ofNat 0, .ofNat 0), (0, .ofNat 0, .ofNat 0)), (2, 1, (8, .ofNat 1, .ofNat 0), (4, .ofNat 1, .ofNat 0), (0, .ofNat 0, .ofNat 0)), (0, 3, (2, .ofNat 1, .ofNat 0), (8, .ofNat 1, .ofNat 0), (0, .ofNat 0, .ofNat 0)), (2, 3, (7, .ofNat 1, .ofNat 0), (0, .ofNat 0, .ofNat 0), (0, .ofNat 0, .ofNat 0)), (0, 4, (2, .ofNat 1, .ofNat 0), (6, .ofNat 1, .ofNat 0), (0, .ofNat 0, .ofNat 0)), (0, 4, (3, .ofNat 1, .ofNat 0), (5, .ofNat 1, .ofNat 0), (0, .ofNat 0, .ofNat 0)), (0, 3, (3, .ofNat 1, .ofNat 0), (4, .ofNat 1, .ofNat 0), (0, .ofNat 0, .ofNat 0))], [(1, [(.ofNat 0, .ofNat 15)]), (2, [(.ofNat 0, .ofNat 7)]), (3, [(.ofNat 0, .ofNat 7)]), (4, [(.ofNat 0, .ofNat 1)]), (5, [(.ofNat 0, .ofNat 9)]), (6, [(.ofNat 0, .ofNat 9)]), (7, [(.ofNat 2, .ofNat 2)]), (8, [(.ofNat 0, .ofNat 1)]), (9, [(.ofNat 1, .ofNat 18)]), (10, [(.ofNat 0, .ofNat 1000000)]), (11, [(.ofNat 0, .ofNat 1000000)]), (12, [(.negSucc 999999, .ofNat 1000000)]), (13, [(.ofNat 0, .ofNat 1000000)]), (14, [(.negSucc 999, .negSucc 0)]), (15, [(.ofNat 1, .ofNat 1000)])], [((12, .ofNat 1, .ofNat 0), (13, .negSucc 0, .ofNat 0), (14, .ofNat 1, .ofNat 0)), ((10, .ofNat 1, .ofNat 0), (11, .negSucc 0, .ofNat 0), (12, .ofNat 1, .ofNat 0)), ((6, .ofNat 1, .ofNat 0), (5, .ofNat 1, .ofNat 0), (9, .ofNat 1, .ofNat 0)), ((6, .ofNat 1, .ofNat 0), (5, .negSucc 0, .ofNat 0), (7, .ofNat 1, .ofNat 0))], []),
  (0, [], [.inl (false, (0, .ofNat 0, .ofNat 0))], [(2, 0, (0, .ofNat 0, .ofNat 0), (0, .ofNat 0, .ofNat 0), (0, .ofNat 0, .ofNat 0)), (2, 0, (8, .ofNat 1, .ofNat 0), (4, .ofNat 1, .ofNat 0), (0, .ofNat 0, .ofNat 0)), (0, 3, (2, .ofNat 1, .ofNat 0), (8, .ofNat 1, .ofNat 0), (0, .ofNat 0, .ofNat 0)), (2, 2, (7, .ofNat 1, .ofNat 0), (0, .ofNat 0, .ofNat 0), (0, .ofNat 0, .ofNat 0)), (0, 4, (2, .ofNat 1, .ofNat 0), (6, .ofNat 1, .ofNat 0), (0, .ofNat 0, .ofNat 0)), (0, 4, (3, .ofNat 1, .ofNat 0), (5, .ofNat 1, .ofNat 0), (0, .ofNat 0, .ofNat 0)), (0, 3, (3, .ofNat 1, .ofNat 0), (4, .ofNat 1, .ofNat 0), (0, .ofNat 0, .ofNat 0))], [(1, [(.ofNat 0, .ofNat 15)]), (2, [(.ofNat 0, .ofNat 7)]), (3, [(.ofNat 0, .ofNat 7)]), (4, [(.ofNat 0, .ofNat 1)]), (5, [(.ofNat 0, .ofNat 9)]), (6, [(.ofNat 0, .ofNat 9)]), (7, [(.negSucc 8, .negSucc 0)]), (8, [(.ofNat 0, .ofNat 1)])], [((6, .ofNat 1, .ofNat 0), (5, .negSucc 0, .ofNat 0), (7, .ofNat 1, .ofNat 0))], []),
  (0, [], [.inl (false, (0, .ofNat 0, .ofNat 0))], [(2, 0, (0, .ofNat 0, .ofNat 0), (0, .ofNat 0, .ofNat 0), (0, .ofNat 0, .ofNat 0)), (2, 1, (7, .negSucc 0, .ofNat 0), (0, .ofNat 0, .ofNat 2), (0, .ofNat 0, .ofNat 0)), (2, 1, (7, .negSucc 0, .ofNat 0), (0, .ofNat 0, .ofNat 0), (0, .ofNat 0, .ofNat 0)), (2, 1, (8, .ofNat 1, .ofNat 0), (4, .ofNat 1, .ofNat 0), (0, .ofNat 0, .ofNat 0)), (0, 3, (2, .ofNat 1, .ofNat 0), (8, .ofNat 1, .ofNat 0), (0, .ofNat 0, .ofNat 0)), (2, 2, (7, .ofNat 1, .ofNat 0), (0, .ofNat 0, .ofNat 0), (0, .ofNat 0, .ofNat 0)), (0, 4, (2, .ofNat 1, .ofNat 0), (6, .ofNat 1, .ofNat 0), (0, .ofNat 0, .ofNat 0)), (0, 4, (3, .ofNat 1, .ofNat 0), (5, .ofNat 1, .ofNat 0), (0, .ofNat 0, .ofNat 0)), (0, 3, (3, .ofNat 1, .ofNat 0), (4, .ofNat 1, .ofNat 0), (0, .ofNat 0, .ofNat 0))], [(1, [(.ofNat 0, .ofNat 15)]), (2, [(.ofNat 0, .ofNat 7)]), (3, [(.ofNat 0, .ofNat 7)]), (4, [(.ofNat 0, .ofNat 1)]), (5, [(.ofNat 0, .ofNat 9)]), (6, [(.ofNat 0, .ofNat 9)]), (7, [(.negSucc 8, .negSucc 2), (.negSucc 0, .negSucc 0)]), (8, [(.ofNat 0, .ofNat 1)])], [((6, .ofNat 1, .ofNat 0), (5, .negSucc 0, .ofNat 0), (7, .ofNat 1, .ofNat 0))], []),
  (0, [], [.inl (false, (0, .ofNat 0, .ofNat 0))], [(2, 0, (0, .ofNat 0, .ofNat 0), (0, .ofNat 0, .ofNat 0), (0, .ofNat 0, .ofNat 0)), (2, 5, (9, .ofNat 1, .ofNat 0), (0, .ofNat 0, .ofNat 0), (0, .ofNat 0, .ofNat 0)), (0, 4, (2, .ofNat 1, .ofNat 0), (6, .ofNat 1, .ofNat 0), (0, .ofNat 0, .ofNat 0)), (2, 0, (7, .negSucc 0, .ofNat 0), (0, .ofNat 0, .ofNat 2), (0, .ofNat 0, .ofNat 0)), (2, 1, (7, .negSucc 0, .ofNat 0), (0, .ofNat 0, .ofNat 0), (0, .ofNat 0, .ofNat 0)), (2, 1, (8, .ofNat 1, .ofNat 0), (4, .ofNat 1, .ofNat 0), (0, .ofNat 0, .ofNat 0)), (0, 3, (2, .ofNat 1, .ofNat 0), (8, .ofNat 1, .ofNat 0), (0, .ofNat 0, .ofNat 0)), (2, 2, (7, .ofNat 1, .ofNat 0), (0, .ofNat 0, .ofNat 0), (0, .ofNat 0, .ofNat 0)), (0, 4, (2, .ofNat 1, .ofNat 0), (6, .ofNat 1, .ofNat 0), (0, .ofNat 0, .ofNat 0)), (0, 4, (3, .ofNat 1, .ofNat 0), (5, .ofNat 1, .ofNat 0), (0, .ofNat 0, .ofNat 0)), (0, 3, (3, .ofNat 1, .ofNat 0), (4, .ofNat 1, .ofNat 0), (0, .ofNat 0, .ofNat 0))], [(1, [(.ofNat 0, .ofNat 15)]), (2, [(.ofNat 0, .ofNat 7)]), (3, [(.ofNat 0, .ofNat 7)]), (4, [(.ofNat 0, .ofNat 1)]), (5, [(.ofNat 0, .ofNat 9)]), (6, [(.ofNat 0, .ofNat 9)]), (7, [(.negSucc 1, .negSucc 1)]), (8, [(.ofNat 0, .ofNat 1)]), (9, [(.ofNat 0, .ofNat 0)])], [((6, .ofNat 1, .ofNat 0), (5, .ofNat 1, .ofNat 0), (9, .ofNat 1, .ofNat 0)), ((6, .ofNat 1, .ofNat 0), (5, .negSucc 0, .ofNat 0), (7, .ofNat 1, .ofNat 0))], []),
  (0, [], [.inl (false, (0, .ofNat 0, .ofNat 0))], [(2, 0, (0, .ofNat 0, .ofNat 0), (0, .ofNat 0, .ofNat 0), (0, .ofNat 0, .ofNat 0)), (2, 4, (14, .ofNat 1, .ofNat 0), (15, .ofNat 1, .ofNat 0), (0, .ofNat 0, .ofNat 0)), (0, 8, (1, .ofNat 1, .ofNat 0), (15, .ofNat 1, .ofNat 0), (0, .ofNat 0, .ofNat 0)), (2, 3, (14, .ofNat 1, .ofNat 0), (0, .ofNat 0, .ofNat 0), (0, .ofNat 0, .ofNat 0)), (0, 7, (1, .ofNat 1, .ofNat 0), (13, .ofNat 1, .ofNat 0), (0, .ofNat 0, .ofNat 0)), (0, 2, (3, .ofNat 1, .ofNat 0), (11, .ofNat 1, .ofNat 0), (0, .ofNat 0, .ofNat 0)), (0, 2, (2, .ofNat 1, .ofNat 0), (10, .ofNat 1, .ofNat 0), (0, .ofNat 0, .ofNat 0)), (2, 1, (0, .ofNat 0, .ofNat 1), (0, .ofNat 0, .ofNat 0), (0, .ofNat 0, .ofNat 0)), (2, 4, (9, .ofNat 1, .ofNat 0), (0, .ofNat 0, .ofNat 0), (0, .ofNat 0, .ofNat 0)), (0, 4, (2, .ofNat 1, .ofNat 0), (6, .ofNat 1, .ofNat 0), (0, .ofNat 0, .ofNat 0)), (2, 0, (7, .negSucc 0, .ofNat 0), (0, .ofNat 0, .ofNat 2), (0, .ofNat 0, .ofNat 0)), (2, 1, (7, .negSucc 0, .ofNat 0), (0, .ofNat 0, .ofNat 0), (0, .ofNat 0, .ofNat 0)), (2, 1, (8, .ofNat 1, .ofNat 0), (4, .ofNat 1, .ofNat 0), (0, .ofNat 0, .ofNat 0)), (0, 3, (2, .ofNat 1, .ofNat 0), (8, .ofNat 1, .ofNat 0), (0, .ofNat 0, .ofNat 0)), (2, 2, (7, .ofNat 1, .ofNat 0), (0, .ofNat 0, .ofNat 0), (0, .ofNat 0, .ofNat 0)), (0, 4, (2, .ofNat 1, .ofNat 0), (6, .ofNat 1, .ofNat 0), (0, .ofNat 0, .ofNat 0)), (0, 4, (3, .ofNat 1, .ofNat 0), (5, .ofNat 1, .ofNat 0), (0, .ofNat 0, .ofNat 0)), (0, 3, (3, .ofNat 1, .ofNat 0), (4, .ofNat 1, .ofNat 0), (0, .ofNat 0, .ofNat 0))], [(1, [(.ofNat 0, .ofNat 15)]), (2, [(.ofNat 0, .ofNat 7)]), (3, [(.ofNat 0, .ofNat 7)]), (4, [(.ofNat 0, .ofNat 1)]), (5, [(.ofNat 0, .ofNat 9)]), (6, [(.ofNat 0, .ofNat 9)]), (7, [(.negSucc 1, .negSucc 1)]), (8, [(.ofNat 0, .ofNat 1)]), (9, [(.ofNat 1, .ofNat 18)]), (10, [(.ofNat 0, .ofNat 1000000)]), (11, [(.ofNat 0, .ofNat 1000000)]), (12, [(.negSucc 999999, .ofNat 1000000)]), (13, [(.ofNat 0, .ofNat 1000000)]), (14, [(.ofNat 1, .ofNat 1000000)]), (15, [(.ofNat 0, .ofNat 1000)])], [((12, .ofNat 1, .ofNat 0), (13, .negSucc 0, .ofNat 0), (14, .ofNat 1, .ofNat 0)), ((10, .ofNat 1, .ofNat 0), (11, .negSucc 0, .ofNat 0), (12, .ofNat 1, .ofNat 0)), ((6, .ofNat 1, .ofNat 0), (5, .ofNat 1, .ofNat 0), (9, .ofNat 1, .ofNat 0)), ((6, .ofNat 1, .ofNat 0), (5, .negSucc 0, .ofNat 0), (7, .ofNat 1, .ofNat 0))], []),
  (0, [], [.inl (false, (0, .ofNat 0, .ofNat 1))], [(2, 1, (0, .ofNat 0, .ofNat 1), (0, .ofNat 0, .ofNat 0), (0, .ofNat 0, .ofNat 0)), (2, 5, (14, .ofNat 1, .ofNat 0), (15, .ofNat 1, .ofNat 0), (0, .ofNat 0, .ofNat 0)), (0, 8, (1, .ofNat 1, .ofNat 0), (15, .ofNat 1, .ofNat 0), (0, .ofNat 0, .ofNat 0)), (2, 3, (14, .ofNat 1, .ofNat 0), (0, .ofNat 0, .ofNat 0), (0, .ofNat 0, .ofNat 0)), (0, 7, (1, .ofNat 1, .ofNat 0), (13, .ofNat 1, .ofNat 0), (0, .ofNat 0, .ofNat 0)), (0, 2, (3, .ofNat 1, .ofNat 0), (11, .ofNat 1, .ofNat 0), (0, .ofNat 0, .ofNat 0)), (0, 2, (2, .ofNat 1, .ofNat 0), (10, .ofNat 1, .ofNat 0), (0, .ofNat 0, .ofNat 0)), (2, 1, (0, .ofNat 0, .ofNat 1), (0, .ofNat 0, .ofNat 0), (0, .ofNat 0, .ofNat 0)), (2, 4, (9, .ofNat 1, .ofNat 0), (0, .ofNat 0, .ofNat 0), (0, .ofNat 0, .ofNat 0)), (0, 4, (2, .ofNat 1, .ofNat 0), (6, .ofNat 1, .ofNat 0), (0, .ofNat 0, .ofNat 0)), (2, 0, (7, .negSucc 0, .ofNat 0), (0, .ofNat 0, .ofNat 2), (0, .ofNat 0, .ofNat 0)), (2, 1, (7, .negSucc 0, .ofNat 0), (0, .ofNat 0, .ofNat 0), (0, .ofNat 0, .ofNat 0)), (2, 1, (8, .ofNat 1, .ofNat 0), (4, .ofNat 1, .ofNat 0), (0, .ofNat 0, .ofNat 0)), (0, 3, (2, .ofNat 1, .ofNat 0), (8, .ofNat 1, .ofNat 0), (0, .ofNat 0, .ofNat 0)), (2, 2, (7, .ofNat 1, .ofNat 0), (0, .ofNat 0, .ofNat 0), (0, .ofNat 0, .ofNat 0)), (0, 4, (2, .ofNat 1, .ofNat 0), (6, .ofNat 1, .ofNat 0), (0, .ofNat 0, .ofNat 0)), (0, 4, (3, .ofNat 1, .ofNat 0), (5, .ofNat 1, .ofNat 0), (0, .ofNat 0, .ofNat 0)), (0, 3, (3, .ofNat 1, .ofNat 0), (4, .ofNat 1, .ofNat 0), (0, .ofNat 0, .ofNat 0))], [(1, [(.ofNat 0, .ofNat 15)]), (2, [(.ofNat 0, .ofNat 7)]), (3, [(.ofNat 0, .ofNat 7)]), (4, [(.ofNat 0, .ofNat 1)]), (5, [(.ofNat 0, .ofNat 9)]), (6, [(.ofNat 0, .ofNat 9)]), (7, [(.negSucc 1, .negSucc 1)]), (8, [(.ofNat 0, .ofNat 1)]), (9, [(.ofNat 1, .ofNat 18)]), (10, [(.ofNat 0, .ofNat 1000000)]), (11, [(.ofNat 0, .ofNat 1000000)]), (12, [(.negSucc 999999, .ofNat 1000000)]), (13, [(.ofNat 0, .ofNat 1000000)]), (14, [(.ofNat 0, .ofNat 1000)]), (15, [(.ofNat 0, .ofNat 1000)])], [((12, .ofNat 1, .ofNat 0), (13, .negSucc 0, .ofNat 0), (14, .ofNat 1, .ofNat 0)), ((10, .ofNat 1, .ofNat 0), (11, .negSucc 0, .ofNat 0), (12, .ofNat 1, .ofNat 0)), ((6, .ofNat 1, .ofNat 0), (5, .ofNat 1, .ofNat 0), (9, .ofNat 1, .ofNat 0)), ((6, .ofNat 1, .ofNat 0), (5, .negSucc 0, .ofNat 0), (7, .ofNat 1, .ofNat 0))], []),
  (0, [], [.inl (false, (0, .ofNat 0, .ofNat 0))], [(2, 0, (0, .ofNat 0, .ofNat 0), (0, .ofNat 0, .ofNat 0), (0, .ofNat 0, .ofNat 0)), (2, 4, (14, .negSucc 0, .ofNat 0), (15, .ofNat 1, .ofNat 0), (0, .ofNat 0, .ofNat 0)), (0, 8, (1, .ofNat 1, .ofNat 0), (15, .ofNat 1, .ofNat 0), (0, .ofNat 0, .ofNat 0)), (2, 2, (14, .ofNat 1, .ofNat 0), (0, .ofNat 0, .ofNat 0), (0, .ofNat 0, .ofNat 0)), (0, 7, (1, .ofNat 1, .ofNat 0), (13, .ofNat 1, .ofNat 0), (0, .ofNat 0, .ofNat 0)), (0, 2, (3, .ofNat 1, .ofNat 0), (11, .ofNat 1, .ofNat 0), (0, .ofNat 0, .ofNat 0)), (0, 2, (2, .ofNat 1, .ofNat 0), (10, .ofNat 1, .ofNat 0), (0, .ofNat 0, .ofNat 0)), (2, 1, (0, .ofNat 0, .ofNat 1), (0, .ofNat 0, .ofNat 0), (0, .ofNat 0, .ofNat 0)), (2, 4, (9, .ofNat 1, .ofNat 0), (0, .ofNat 0, .ofNat 0), (0, .ofNat 0, .ofNat 0)), (0, 4, (2, .ofNat 1, .ofNat 0), (6, .ofNat 1, .ofNat 0), (0, .ofNat 0, .ofNat 0)), (2, 0, (7, .negSucc 0, .ofNat 0), (0, .ofNat 0, .ofNat 2), (0, .ofNat 0, .ofNat 0)), (2, 1, (7, .negSucc 0, .ofNat 0), (0, .ofNat 0, .ofNat 0), (0, .ofNat 0, .ofNat 0)), (2, 1, (8, .ofNat 1, .ofNat 0), (4, .ofNat 1, .ofNat 0), (0, .ofNat 0, .ofNat 0)), (0, 3, (2, .ofNat 1, .ofNat 0), (8, .ofNat 1, .ofNat 0), (0, .ofNat 0, .ofNat 0)), (2, 2, (7, .ofNat 1, .ofNat 0), (0, .ofNat 0, .ofNat 0), (0, .ofNat 0, .ofNat 0)), (0, 4, (2, .ofNat 1, .ofNat 0), (6, .ofNat 1, .ofNat 0), (0, .ofNat 0, .ofNat 0)), (0, 4, (3, .ofNat 1, .ofNat 0), (5, .ofNat 1, .ofNat 0), (0, .ofNat 0, .ofNat 0)), (0, 3, (3, .ofNat 1, .ofNat 0), (4, .ofNat 1, .ofNat 0), (0, .ofNat 0, .ofNat 0))], [(1, [(.ofNat 0, .ofNat 15)]), (2, [(.ofNat 0, .ofNat 7)]), (3, [(.ofNat 0, .ofNat 7)]), (4, [(.ofNat 0, .ofNat 1)]), (5, [(.ofNat 0, .ofNat 9)]), (6, [(.ofNat 0, .ofNat 9)]), (7, [(.negSucc 1, .negSucc 1)]), (8, [(.ofNat 0, .ofNat 1)]), (9, [(.ofNat 1, .ofNat 18)]), (10, [(.ofNat 0, .ofNat 1000000)]), (11, [(.ofNat 0, .ofNat 1000000)]), (12, [(.negSucc 999999, .ofNat 1000000)]), (13, [(.ofNat 0, .ofNat 1000000)]), (14, [(.negSucc 1999999, .negSucc 0)]), (15, [(.ofNat 0, .ofNat 1000)])], [((12, .ofNat 1, .ofNat 0), (13, .negSucc 0, .ofNat 0), (14, .ofNat 1, .ofNat 0)), ((10, .ofNat 1, .ofNat 0), (11, .negSucc 0, .ofNat 0), (12, .ofNat 1, .ofNat 0)), ((6, .ofNat 1, .ofNat 0), (5, .ofNat 1, .ofNat 0), (9, .ofNat 1, .ofNat 0)), ((6, .ofNat 1, .ofNat 0), (5, .negSucc 0, .ofNat 0), (7, .ofNat 1, .ofNat 0))], []),
  (0, [], [.inl (false, (0, .ofNat 0, .ofNat 1))], [(2, 1, (0, .ofNat 0, .ofNat 1), (0, .ofNat 0, .ofNat 0), (0, .ofNat 0, .ofNat 0)), (2, 5, (14, .negSucc 0, .ofNat 0), (15, .ofNat 1, .ofNat 0), (0, .ofNat 0, .ofNat 0)), (0, 8, (1, .ofNat 1, .ofNat 0), (15, .ofNat 1, .ofNat 0), (0, .ofNat 0, .ofNat 0)), (2, 2, (14, .ofNat 1, .ofNat 0), (0, .ofNat 0, .ofNat 0), (0, .ofNat 0, .ofNat 0)), (0, 7, (1, .ofNat 1, .ofNat 0), (13, .ofNat 1, .ofNat 0), (0, .ofNat 0, .ofNat 0)), (0, 2, (3, .ofNat 1, .ofNat 0), (11, .ofNat 1, .ofNat 0), (0, .ofNat 0, .ofNat 0)), (0, 2, (2, .ofNat 1, .ofNat 0), (10, .ofNat 1, .ofNat 0), (0, .ofNat 0, .ofNat 0)), (2, 1, (0, .ofNat 0, .ofNat 1), (0, .ofNat 0, .ofNat 0), (0, .ofNat 0, .ofNat 0)), (2, 4, (9, .ofNat 1, .ofNat 0), (0, .ofNat 0, .ofNat 0), (0, .ofNat 0, .ofNat 0)), (0, 4, (2, .ofNat 1, .ofNat 0), (6, .ofNat 1, .ofNat 0), (0, .ofNat 0, .ofNat 0)), (2, 0, (7, .negSucc 0, .ofNat 0), (0, .ofNat 0, .ofNat 2), (0, .ofNat 0, .ofNat 0)), (2, 1, (7, .negSucc 0, .ofNat 0), (0, .ofNat 0, .ofNat 0), (0, .ofNat 0, .ofNat 0)), (2, 1, (8, .ofNat 1, .ofNat 0), (4, .ofNat 1, .ofNat 0), (0, .ofNat 0, .ofNat 0)), (0, 3, (2, .ofNat 1, .ofNat 0), (8, .ofNat 1, .ofNat 0), (0, .ofNat 0, .ofNat 0)), (2, 2, (7, .ofNat 1, .ofNat 0), (0, .ofNat 0, .ofNat 0), (0, .ofNat 0, .ofNat 0)), (0, 4, (2, .ofNat 1, .ofNat 0), (6, .ofNat 1, .ofNat 0), (0, .ofNat 0, .ofNat 0)), (0, 4, (3, .ofNat 1, .ofNat 0), (5, .ofNat 1, .ofNat 0), (0, .ofNat 0, .ofNat 0)), (0, 3, (3, .ofNat 1, .ofNat 0), (4, .ofNat 1, .ofNat 0), (0, .ofNat 0, .ofNat 0))], [(1, [(.ofNat 0, .ofNat 15)]), (2, [(.ofNat 0, .ofNat 7)]), (3, [(.ofNat 0, .ofNat 7)]), (4, [(.ofNat 0, .ofNat 1)]), (5, [(.ofNat 0, .ofNat 9)]), (6, [(.ofNat 0, .ofNat 9)]), (7, [(.negSucc 1, .negSucc 1)]), (8, [(.ofNat 0, .ofNat 1)]), (9, [(.ofNat 1, .ofNat 18)]), (10, [(.ofNat 0, .ofNat 1000000)]), (11, [(.ofNat 0, .ofNat 1000000)]), (12, [(.negSucc 999999, .ofNat 1000000)]), (13, [(.ofNat 0, .ofNat 1000000)]), (14, [(.negSucc 999, .negSucc 0)]), (15, [(.ofNat 1, .ofNat 1000)])], [((12, .ofNat 1, .ofNat 0), (13, .negSucc 0, .ofNat 0), (14, .ofNat 1, .ofNat 0)), ((10, .ofNat 1, .ofNat 0), (11, .negSucc 0, .ofNat 0), (12, .ofNat 1, .ofNat 0)), ((6, .ofNat 1, .ofNat 0), (5, .ofNat 1, .ofNat 0), (9, .ofNat 1, .ofNat 0)), ((6, .ofNat 1, .ofNat 0), (5, .negSucc 0, .ofNat 0), (7, .ofNat 1, .ofNat 0))], [])]
set_option maxRecDepth 1000000 in
theorem sg_if_x_g : sg_go [] [] 3000 149 0 3 4 [(0, [(.ofNat 0, .ofNat 0)]), (1, [(.ofNat 0, .ofNat 15)]), (2, [(.ofNat 0, .ofNat 7)]), (3, [(.ofNat 0, .ofNat 7)])] [] [] [] [(0, .inr (.inl [0])), (1, .inl (false, (1, .ofNat 1, .ofNat 0))), (2, .inl (false, (2, .ofNat 1, .ofNat 0))), (3, .inl (false, (3, .ofNat 1, .ofNat 0)))] [] [] sg_if_x_Z = true := by decide +kernel
set_option maxRecDepth 100000 in
theorem sg_if_x {Q : Option Value × am_S → Prop} {d : Nat} {S : am_S} {L : am_L} {x1 x2 x3 : Int} (hd : 3 ≤ d) (hP : ax_P0 none S) (l0 : lc L 0 0) (l1 : li L 1 x1) (l2 : li L 2 x2) (l3 : li L 3 x3) (b1 : (0 ≤ x1 ∧ x1 ≤ 15)) (b2 : (0 ≤ x2 ∧ x2 ≤ 7)) (b3 : (0 ≤ x3 ∧ x3 ≤ 7))
    (k0 : ∀ (x4 x5 x6 x7 x8 : Int) (i1 : Int32), rd S 3 x3 = x4 → rd S 4 x3 = x5 → rd S 4 x2 = x6 → 0 ≤ x7 → rd S 3 x2 = x8 → x8 = x4 → (0 ≤ x1 ∧ x1 ≤ 15) → (0 ≤ x2 ∧ x2 ≤ 7) → (0 ≤ x3 ∧ x3 ≤ 7) → (0 ≤ x4 ∧ x4 ≤ 1) → (0 ≤ x5 ∧ x5 ≤ 9) → (0 ≤ x6 ∧ x6 ≤ 9) → (0 ≤ x7 ∧ x7 ≤ 9) → (0 ≤ x8 ∧ x8 ≤ 1) → x6 + ((-1) * x5 + 0) = x7 → i1.toInt = 0 → Q (some (.int i1), S))
    (k1 : ∀ (x4 x5 x6 x7 x8 x9 : Int) (i1 : Int32), rd S 3 x3 = x4 → rd S 4 x3 = x5 → rd S 4 x2 = x6 → 0 ≤ x7 → rd S 3 x2 = x8 → x8 ≠ x4 → x7 = 0 → x9 ≤ 0 → (0 ≤ x1 ∧ x1 ≤ 15) → (0 ≤ x2 ∧ x2 ≤ 7) → (0 ≤ x3 ∧ x3 ≤ 7) → (0 ≤ x4 ∧ x4 ≤ 1) → (0 ≤ x5 ∧ x5 ≤ 9) → (0 ≤ x6 ∧ x6 ≤ 9) → (0 ≤ x7 ∧ x7 ≤ 0) → (0 ≤ x8 ∧ x8 ≤ 1) → (0 ≤ x9 ∧ x9 ≤ 0) → x6 + x5 = x9 → x6 + ((-1) * x5 + 0) = x7 → i1.toInt = 0 → Q (some (.int i1), S))
    (k2 : ∀ (x4 x5 x6 x7 x8 x9 x10 x11 x12 x13 x14 x15 : Int) (i1 : Int32), rd S 3 x3 = x4 → rd S 4 x3 = x5 → rd S 4 x2 = x6 → 0 ≤ x7 → rd S 3 x2 = x8 → x8 ≠ x4 → x7 = 0 → 0 < x9 → rd S 2 x2 = x10 → rd S 2 x3 = x11 → rd S 7 x1 = x13 → 0 ≤ x14 → rd S 8 x1 = x15 → x15 < x14 → (0 ≤ x1 ∧ x1 ≤ 15) → (0 ≤ x2 ∧ x2 ≤ 7) → (0 ≤ x3 ∧ x3 ≤ 7) → (0 ≤ x4 ∧ x4 ≤ 1) → (0 ≤ x5 ∧ x5 ≤ 9) → (0 ≤ x6 ∧ x6 ≤ 9) → (0 ≤ x7 ∧ x7 ≤ 0) → (0 ≤ x8 ∧ x8 ≤ 1) → (1 ≤ x9 ∧ x9 ≤ 18) → (0 ≤ x10 ∧ x10 ≤ 1000000) → (0 ≤ x11 ∧ x11 ≤ 1000000) → ((-1000000) ≤ x12 ∧ x12 ≤ 1000000) → (0 ≤ x13 ∧ x13 ≤ 1000000) → (1 ≤ x14 ∧ x14 ≤ 1000000) → (0 ≤ x15 ∧ x15 ≤ 1000) → x12 + ((-1) * x13 + 0) = x14 → x10 + ((-1) * x11 + 0) = x12 → x6 + x5 = x9 → x6 + ((-1) * x5 + 0) = x7 → i1.toInt = 0 → Q (some (.int i1), S))
    (k3 : ∀ (x4 x5 x6 x7 x8 x9 x10 x11 x12 x13 x14 x15 : Int) (i1 : Int32), rd S 3 x3 = x4 → rd S 4 x3 = x5 → rd S 4 x2 = x6 → 0 ≤ x7 → rd S 3 x2 = x8 → x8 ≠ x4 → x7 = 0 → 0 < x9 → rd S 2 x2 = x10 → rd S 2 x3 = x11 → rd S 7 x1 = x13 → 0 ≤ x14 → rd S 8 x1 = x15 → x14 ≤ x15 → (0 ≤ x1 ∧ x1 ≤ 15) → (0 ≤ x2 ∧ x2 ≤ 7) → (0 ≤ x3 ∧ x3 ≤ 7) → (0 ≤ x4 ∧ x4 ≤ 1) → (0 ≤ x5 ∧ x5 ≤ 9) → (0 ≤ x6 ∧ x6 ≤ 9) → (0 ≤ x7 ∧ x7 ≤ 0) → (0 ≤ x8 ∧ x8 ≤ 1) → (1 ≤ x9 ∧ x9 ≤ 18) → (0 ≤ x10 ∧ x10 ≤ 1000000) → (0 ≤ x11 ∧ x11 ≤ 1000000) → ((-1000000) ≤ x12 ∧ x12 ≤ 1000000) → (0 ≤ x13 ∧ x13 ≤ 1000000) → (0 ≤ x14 ∧ x14 ≤ 1000) → (0 ≤ x15 ∧ x15 ≤ 1000) → x12 + ((-1) * x13 + 0) = x14 → x10 + ((-1) * x11 + 0) = x12 → x6 + x5 = x9 → x6 + ((-1) * x5 + 0) = x7 → i1.toInt = 1 → Q (some (.int i1), S))
    (k4 : ∀ (x4 x5 x6 x7 x8 x9 x10 x11 x12 x13 x14 x15 : Int) (i1 : Int32), rd S 3 x3 = x4 → rd S 4 x3 = x5 → rd S 4 x2 = x6 → 0 ≤ x7 → rd S 3 x2 = x8 → x8 ≠ x4 → x7 = 0 → 0 < x9 → rd S 2 x2 = x10 → rd S 2 x3 = x11 → rd S 7 x1 = x13 → x14 < 0 → rd S 8 x1 = x15 → x15 < (-1) * x14 + 0 → (0 ≤ x1 ∧ x1 ≤ 15) → (0 ≤ x2 ∧ x2 ≤ 7) → (0 ≤ x3 ∧ x3 ≤ 7) → (0 ≤ x4 ∧ x4 ≤ 1) → (0 ≤ x5 ∧ x5 ≤ 9) → (0 ≤ x6 ∧ x6 ≤ 9) → (0 ≤ x7 ∧ x7 ≤ 0) → (0 ≤ x8 ∧ x8 ≤ 1) → (1 ≤ x9 ∧ x9 ≤ 18) → (0 ≤ x10 ∧ x10 ≤ 1000000) → (0 ≤ x11 ∧ x11 ≤ 1000000) → ((-1000000) ≤ x12 ∧ x12 ≤ 1000000) → (0 ≤ x13 ∧ x13 ≤ 1000000) → ((-2000000) ≤ x14 ∧ x14 ≤ (-1)) → (0 ≤ x15 ∧ x15 ≤ 1000) → x12 + ((-1) * x13 + 0) = x14 → x10 + ((-1) * x11 + 0) = x12 → x6 + x5 = x9 → x6 + ((-1) * x5 + 0) = x7 → i1.toInt = 0 → Q (some (.int i1), S))
    (k5 : ∀ (x4 x5 x6 x7 x8 x9 x10 x11 x12 x13 x14 x15 : Int) (i1 : Int32), rd S 3 x3 = x4 → rd S 4 x3 = x5 → rd S 4 x2 = x6 → 0 ≤ x7 → rd S 3 x2 = x8 → x8 ≠ x4 → x7 = 0 → 0 < x9 → rd S 2 x2 = x10 → rd S 2 x3 = x11 → rd S 7 x1 = x13 → x14 < 0 → rd S 8 x1 = x15 → (-1) * x14 + 0 ≤ x15 → (0 ≤ x1 ∧ x1 ≤ 15) → (0 ≤ x2 ∧ x2 ≤ 7) → (0 ≤ x3 ∧ x3 ≤ 7) → (0 ≤ x4 ∧ x4 ≤ 1) → (0 ≤ x5 ∧ x5 ≤ 9) → (0 ≤ x6 ∧ x6 ≤ 9) → (0 ≤ x7 ∧ x7 ≤ 0) → (0 ≤ x8 ∧ x8 ≤ 1) → (1 ≤ x9 ∧ x9 ≤ 18) → (0 ≤ x10 ∧ x10 ≤ 1000000) → (0 ≤ x11 ∧ x11 ≤ 1000000) → ((-1000000) ≤ x12 ∧ x12 ≤ 1000000) → (0 ≤ x13 ∧ x13 ≤ 1000000) → ((-1000) ≤ x14 ∧ x14 ≤ (-1)) → (1 ≤ x15 ∧ x15 ≤ 1000) → x12 + ((-1) * x13 + 0) = x14 → x10 + ((-1) * x11 + 0) = x12 → x6 + x5 = x9 → x6 + ((-1) * x5 + 0) = x7 → i1.toInt = 1 → Q (some (.int i1), S))
    (k6 : ∀ (x4 x5 x6 x7 x8 : Int) (i1 : Int32), rd S 3 x3 = x4 → rd S 4 x3 = x5 → rd S 4 x2 = x6 → 0 ≤ x7 → rd S 3 x2 = x8 → x8 ≠ x4 → x7 ≠ 0 → x7 ≠ 2 → (0 ≤ x1 ∧ x1 ≤ 15) → (0 ≤ x2 ∧ x2 ≤ 7) → (0 ≤ x3 ∧ x3 ≤ 7) → (0 ≤ x4 ∧ x4 ≤ 1) → (0 ≤ x5 ∧ x5 ≤ 9) → (0 ≤ x6 ∧ x6 ≤ 9) → (1 ≤ x7 ∧ x7 ≤ 1) ∨ (3 ≤ x7 ∧ x7 ≤ 9) → (0 ≤ x8 ∧ x8 ≤ 1) → x6 + ((-1) * x5 + 0) = x7 → i1.toInt = 0 → Q (some (.int i1), S))
    (k7 : ∀ (x4 x5 x6 x7 x8 x9 : Int) (i1 : Int32), rd S 3 x3 = x4 → rd S 4 x3 = x5 → rd S 4 x2 = x6 → 0 ≤ x7 → rd S 3 x2 = x8 → x8 ≠ x4 → x7 ≠ 0 → x7 = 2 → x9 ≤ 0 → (0 ≤ x1 ∧ x1 ≤ 15) → (0 ≤ x2 ∧ x2 ≤ 7) → (0 ≤ x3 ∧ x3 ≤ 7) → (0 ≤ x4 ∧ x4 ≤ 1) → (0 ≤ x5 ∧ x5 ≤ 9) → (0 ≤ x6 ∧ x6 ≤ 9) → (2 ≤ x7 ∧ x7 ≤ 2) → (0 ≤ x8 ∧ x8 ≤ 1) → (0 ≤ x9 ∧ x9 ≤ 0) → x6 + x5 = x9 → x6 + ((-1) * x5 + 0) = x7 → i1.toInt = 0 → Q (some (.int i1), S))
    (k8 : ∀ (x4 x5 x6 x7 x8 x9 x10 x11 x12 x13 x14 x15 : Int) (i1 : Int32), rd S 3 x3 = x4 → rd S 4 x3 = x5 → rd S 4 x2 = x6 → 0 ≤ x7 → rd S 3 x2 = x8 → x8 ≠ x4 → x7 ≠ 0 → x7 = 2 → 0 < x9 → rd S 2 x2 = x10 → rd S 2 x3 = x11 → rd S 7 x1 = x13 → 0 ≤ x14 → rd S 8 x1 = x15 → x15 < x14 → (0 ≤ x1 ∧ x1 ≤ 15) → (0 ≤ x2 ∧ x2 ≤ 7) → (0 ≤ x3 ∧ x3 ≤ 7) → (0 ≤ x4 ∧ x4 ≤ 1) → (0 ≤ x5 ∧ x5 ≤ 9) → (0 ≤ x6 ∧ x6 ≤ 9) → (2 ≤ x7 ∧ x7 ≤ 2) → (0 ≤ x8 ∧ x8 ≤ 1) → (1 ≤ x9 ∧ x9 ≤ 18) → (0 ≤ x10 ∧ x10 ≤ 1000000) → (0 ≤ x11 ∧ x11 ≤ 1000000) → ((-1000000) ≤ x12 ∧ x12 ≤ 1000000) → (0 ≤ x13 ∧ x13 ≤ 1000000) → (1 ≤ x14 ∧ x14 ≤ 1000000) → (0 ≤ x15 ∧ x15 ≤ 1000) → x12 + ((-1) * x13 + 0) = x14 → x10 + ((-1) * x11 + 0) = x12 → x6 + x5 = x9 → x6 + ((-1) * x5 + 0) = x7 → i1.toInt = 0 → Q (some (.int i1), S))
    (k9 : ∀ (x4 x5 x6 x7 x8 x9 x10 x11 x12 x13 x14 x15 : Int) (i1 : Int32), rd S 3 x3 = x4 → rd S 4 x3 = x5 → rd S 4 x2 = x6 → 0 ≤ x7 → rd S 3 x2 = x8 → x8 ≠ x4 → x7 ≠ 0 → x7 = 2 → 0 < x9 → rd S 2 x2 = x10 → rd S 2 x3 = x11 → rd S 7 x1 = x13 → 0 ≤ x14 → rd S 8 x1 = x15 → x14 ≤ x15 → (0 ≤ x1 ∧ x1 ≤ 15) → (0 ≤ x2 ∧ x2 ≤ 7) → (0 ≤ x3 ∧ x3 ≤ 7) → (0 ≤ x4 ∧ x4 ≤ 1) → (0 ≤ x5 ∧ x5 ≤ 9) → (0 ≤ x6 ∧ x6 ≤ 9) → (2 ≤ x7 ∧ x7 ≤ 2) → (0 ≤ x8 ∧ x8 ≤ 1) → (1 ≤ x9 ∧ x9 ≤ 18) → (0 ≤ x10 ∧ x10 ≤ 1000000) → (0 ≤ x11 ∧ x11 ≤ 1000000) → ((-1000000) ≤ x12 ∧ x12 ≤ 1000000) → (0 ≤ x13 ∧ x13 ≤ 1000000) → (0 ≤ x14 ∧ x14 ≤ 1000) → (0 ≤ x15 ∧ x15 ≤ 1000) → x12 + ((-1) * x13 + 0) = x14 → x10 + ((-1) * x11 + 0) = x12 → x6 + x5 = x9 → x6 + ((-1) * x5 + 0) = x7 → i1.toInt = 1 → Q (some (.int i1), S))
    (k10 : ∀ (x4 x5 x6 x7 x8 x9 x10 x11 x12 x13 x14 x15 : Int) (i1 : Int32), rd S 3 x3 = x4 → rd S 4 x3 = x5 → rd S 4 x2 = x6 → 0 ≤ x7 → rd S 3 x2 = x8 → x8 ≠ x4 → x7 ≠ 0 → x7 = 2 → 0 < x9 → rd S 2 x2 = x10 → rd S 2 x3 = x11 → rd S 7 x1 = x13 → x14 < 0 → rd S 8 x1 = x15 → x15 < (-1) * x14 + 0 → (0 ≤ x1 ∧ x1 ≤ 15) → (0 ≤ x2 ∧ x2 ≤ 7) → (0 ≤ x3 ∧ x3 ≤ 7) → (0 ≤ x4 ∧ x4 ≤ 1) → (0 ≤ x5 ∧ x5 ≤ 9) → (0 ≤ x6 ∧ x6 ≤ 9) → (2 ≤ x7 ∧ x7 ≤ 2) → (0 ≤ x8 ∧ x8 ≤ 1) → (1 ≤ x9 ∧ x9 ≤ 18) → (0 ≤ x10 ∧ x10 ≤ 1000000) → (0 ≤ x11 ∧ x11 ≤ 1000000) → ((-1000000) ≤ x12 ∧ x12 ≤ 1000000) → (0 ≤ x13 ∧ x13 ≤ 1000000) → ((-2000000) ≤ x14 ∧ x14 ≤ (-1)) → (0 ≤ x15 ∧ x15 ≤ 1000) → x12 + ((-1) * x13 + 0) = x14 → x10 + ((-1) * x11 + 0) = x12 → x6 + x5 = x9 → x6 + ((-1) * x5 + 0) = x7 → i1.toInt = 0 → Q (some (.int i1), S))
    (k11 : ∀ (x4 x5 x6 x7 x8 x9 x10 x11 x12 x13 x14 x15 : Int) (i1 : Int32), rd S 3 x3 = x4 → rd S 4 x3 = x5 → rd S 4 x2 = x6 → 0 ≤ x7 → rd S 3 x2 = x8 → x8 ≠ x4 → x7 ≠ 0 → x7 = 2 → 0 < x9 → rd S 2 x2 = x10 → rd S 2 x3 = x11 → rd S 7 x1 = x13 → x14 < 0 → rd S 8 x1 = x15 → (-1) * x14 + 0 ≤ x15 → (0 ≤ x1 ∧ x1 ≤ 15) → (0 ≤ x2 ∧ x2 ≤ 7) → (0 ≤ x3 ∧ x3 ≤ 7) → (0 ≤ x4 ∧ x4 ≤ 1) → (0 ≤ x5 ∧ x5 ≤ 9) → (0 ≤ x6 ∧ x6 ≤ 9) → (2 ≤ x7 ∧ x7 ≤ 2) → (0 ≤ x8 ∧ x8 ≤ 1) → (1 ≤ x9 ∧ x9 ≤ 18) → (0 ≤ x10 ∧ x10 ≤ 1000000) → (0 ≤ x11 ∧ x11 ≤ 1000000) → ((-1000000) ≤ x12 ∧ x12 ≤ 1000000) → (0 ≤ x13 ∧ x13 ≤ 1000000) → ((-1000) ≤ x14 ∧ x14 ≤ (-1)) → (1 ≤ x15 ∧ x15 ≤ 1000) → x12 + ((-1) * x13 + 0) = x14 → x10 + ((-1) * x11 + 0) = x12 → x6 + x5 = x9 → x6 + ((-1) * x5 + 0) = x7 → i1.toInt = 1 → Q (some (.int i1), S))
    (k12 : ∀ (x4 x5 x6 x7 x8 : Int) (i1 : Int32), rd S 3 x3 = x4 → rd S 4 x3 = x5 → rd S 4 x2 = x6 → x7 < 0 → rd S 3 x2 = x8 → x8 = x4 → (0 ≤ x1 ∧ x1 ≤ 15) → (0 ≤ x2 ∧ x2 ≤ 7) → (0 ≤ x3 ∧ x3 ≤ 7) → (0 ≤ x4 ∧ x4 ≤ 1) → (0 ≤ x5 ∧ x5 ≤ 9) → (0 ≤ x6 ∧ x6 ≤ 9) → ((-9) ≤ x7 ∧ x7 ≤ (-1)) → (0 ≤ x8 ∧ x8 ≤ 1) → x6 + ((-1) * x5 + 0) = x7 → i1.toInt = 0 → Q (some (.int i1), S))
    (k13 : ∀ (x4 x5 x6 x7 x8 : Int) (i1 : Int32), rd S 3 x3 = x4 → rd S 4 x3 = x5 → rd S 4 x2 = x6 → x7 < 0 → rd S 3 x2 = x8 → x8 ≠ x4 → (-1) * x7 + 0 ≠ 0 → (-1) * x7 + 0 ≠ 2 → (0 ≤ x1 ∧ x1 ≤ 15) → (0 ≤ x2 ∧ x2 ≤ 7) → (0 ≤ x3 ∧ x3 ≤ 7) → (0 ≤ x4 ∧ x4 ≤ 1) → (0 ≤ x5 ∧ x5 ≤ 9) → (0 ≤ x6 ∧ x6 ≤ 9) → ((-9) ≤ x7 ∧ x7 ≤ (-3)) ∨ ((-1) ≤ x7 ∧ x7 ≤ (-1)) → (0 ≤ x8 ∧ x8 ≤ 1) → x6 + ((-1) * x5 + 0) = x7 → i1.toInt = 0 → Q (some (.int i1), S))
    (k14 : ∀ (x4 x5 x6 x7 x8 x9 : Int) (i1 : Int32), rd S 3 x3 = x4 → rd S 4 x3 = x5 → rd S 4 x2 = x6 → x7 < 0 → rd S 3 x2 = x8 → x8 ≠ x4 → (-1) * x7 + 0 ≠ 0 → (-1) * x7 + 0 = 2 → x9 ≤ 0 → (0 ≤ x1 ∧ x1 ≤ 15) → (0 ≤ x2 ∧ x2 ≤ 7) → (0 ≤ x3 ∧ x3 ≤ 7) → (0 ≤ x4 ∧ x4 ≤ 1) → (0 ≤ x5 ∧ x5 ≤ 9) → (0 ≤ x6 ∧ x6 ≤ 9) → ((-2) ≤ x7 ∧ x7 ≤ (-2)) → (0 ≤ x8 ∧ x8 ≤ 1) → (0 ≤ x9 ∧ x9 ≤ 0) → x6 + x5 = x9 → x6 + ((-1) * x5 + 0) = x7 → i1.toInt = 0 → Q (some (.int i1), S))
    (k15 : ∀ (x4 x5 x6 x7 x8 x9 x10 x11 x12 x13 x14 x15 : Int) (i1 : Int32), rd S 3 x3 = x4 → rd S 4 x3 = x5 → rd S 4 x2 = x6 → x7 < 0 → rd S 3 x2 = x8 → x8 ≠ x4 → (-1) * x7 + 0 ≠ 0 → (-1) * x7 + 0 = 2 → 0 < x9 → rd S 2 x2 = x10 → rd S 2 x3 = x11 → rd S 7 x1 = x13 → 0 ≤ x14 → rd S 8 x1 = x15 → x15 < x14 → (0 ≤ x1 ∧ x1 ≤ 15) → (0 ≤ x2 ∧ x2 ≤ 7) → (0 ≤ x3 ∧ x3 ≤ 7) → (0 ≤ x4 ∧ x4 ≤ 1) → (0 ≤ x5 ∧ x5 ≤ 9) → (0 ≤ x6 ∧ x6 ≤ 9) → ((-2) ≤ x7 ∧ x7 ≤ (-2)) → (0 ≤ x8 ∧ x8 ≤ 1) → (1 ≤ x9 ∧ x9 ≤ 18) → (0 ≤ x10 ∧ x10 ≤ 1000000) → (0 ≤ x11 ∧ x11 ≤ 1000000) → ((-1000000) ≤ x12 ∧ x12 ≤ 1000000) → (0 ≤ x13 ∧ x13 ≤ 1000000) → (1 ≤ x14 ∧ x14 ≤ 1000000) → (0 ≤ x15 ∧ x15 ≤ 1000) → x12 + ((-1) * x13 + 0) = x14 → x10 + ((-1) * x11 + 0) = x12 → x6 + x5 = x9 → x6 + ((-1) * x5 + 0) = x7 → i1.toInt = 0 → Q (some (.int i1), S))
    (k16 : ∀ (x4 x5 x6 x7 x8 x9 x10 x11 x12 x13 x14 x15 : Int) (i1 : Int32), rd S 3 x3 = x4 → rd S 4 x3 = x5 → rd S 4 x2 = x6 → x7 < 0 → rd S 3 x2 = x8 → x8 ≠ x4 → (-1) * x7 + 0 ≠ 0 → (-1) * x7 + 0 = 2 → 0 < x9 → rd S 2 x2 = x10 → rd S 2 x3 = x11 → rd S 7 x1 = x13 → 0 ≤ x14 → rd S 8 x1 = x15 → x14 ≤ x15 → (0 ≤ x1 ∧ x1 ≤ 15) → (0 ≤ x2 ∧ x2 ≤ 7) → (0 ≤ x3 ∧ x3 ≤ 7) → (0 ≤ x4 ∧ x4 ≤ 1) → (0 ≤ x5 ∧ x5 ≤ 9) → (0 ≤ x6 ∧ x6 ≤ 9) → ((-2) ≤ x7 ∧ x7 ≤ (-2)) → (0 ≤ x8 ∧ x8 ≤ 1) → (1 ≤ x9 ∧ x9 ≤ 18) → (0 ≤ x10 ∧ x10 ≤ 1000000) → (0 ≤ x11 ∧ x11 ≤ 1000000) → ((-1000000) ≤ x12 ∧ x12 ≤ 1000000) → (0 ≤ x13 ∧ x13 ≤ 1000000) → (0 ≤ x14 ∧ x14 ≤ 1000) → (0 ≤ x15 ∧ x15 ≤ 1000) → x12 + ((-1) * x13 + 0) = x14 → x10 + ((-1) * x11 + 0) = x12 → x6 + x5 = x9 → x6 + ((-1) * x5 + 0) = x7 → i1.toInt = 1 → Q (some (.int i1), S))
    (k17 : ∀ (x4 x5 x6 x7 x8 x9 x10 x11 x12 x13 x14 x15 : Int) (i1 : Int32), rd S 3 x3 = x4 → rd S 4 x3 = x5 → rd S 4 x2 = x6 → x7 < 0 → rd S 3 x2 = x8 → x8 ≠ x4 → (-1) * x7 + 0 ≠ 0 → (-1) * x7 + 0 = 2 → 0 < x9 → rd S 2 x2 = x10 → rd S 2 x3 = x11 → rd S 7 x1 = x13 → x14 < 0 → rd S 8 x1 = x15 → x15 < (-1) * x14 + 0 → (0 ≤ x1 ∧ x1 ≤ 15) → (0 ≤ x2 ∧ x2 ≤ 7) → (0 ≤ x3 ∧ x3 ≤ 7) → (0 ≤ x4 ∧ x4 ≤ 1) → (0 ≤ x5 ∧ x5 ≤ 9) → (0 ≤ x6 ∧ x6 ≤ 9) → ((-2) ≤ x7 ∧ x7 ≤ (-2)) → (0 ≤ x8 ∧ x8 ≤ 1) → (1 ≤ x9 ∧ x9 ≤ 18) → (0 ≤ x10 ∧ x10 ≤ 1000000) → (0 ≤ x11 ∧ x11 ≤ 1000000) → ((-1000000) ≤ x12 ∧ x12 ≤ 1000000) → (0 ≤ x13 ∧ x13 ≤ 1000000) → ((-2000000) ≤ x14 ∧ x14 ≤ (-1)) → (0 ≤ x15 ∧ x15 ≤ 1000) → x12 + ((-1) * x13 + 0) = x14 → x10 + ((-1) * x11 + 0) = x12 → x6 + x5 = x9 → x6 + ((-1) * x5 + 0) = x7 → i1.toInt = 0 → Q (some (.int i1), S))
    (k18 : ∀ (x4 x5 x6 x7 x8 x9 x10 x11 x12 x13 x14 x15 : Int) (i1 : Int32), rd S 3 x3 = x4 → rd S 4 x3 = x5 → rd S 4 x2 = x6 → x7 < 0 → rd S 3 x2 = x8 → x8 ≠ x4 → (-1) * x7 + 0 ≠ 0 → (-1) * x7 + 0 = 2 → 0 < x9 → rd S 2 x2 = x10 → rd S 2 x3 = x11 → rd S 7 x1 = x13 → x14 < 0 → rd S 8 x1 = x15 → (-1) * x14 + 0 ≤ x15 → (0 ≤ x1 ∧ x1 ≤ 15) → (0 ≤ x2 ∧ x2 ≤ 7) → (0 ≤ x3 ∧ x3 ≤ 7) → (0 ≤ x4 ∧ x4 ≤ 1) → (0 ≤ x5 ∧ x5 ≤ 9) → (0 ≤ x6 ∧ x6 ≤ 9) → ((-2) ≤ x7 ∧ x7 ≤ (-2)) → (0 ≤ x8 ∧ x8 ≤ 1) → (1 ≤ x9 ∧ x9 ≤ 18) → (0 ≤ x10 ∧ x10 ≤ 1000000) → (0 ≤ x11 ∧ x11 ≤ 1000000) → ((-1000000) ≤ x12 ∧ x12 ≤ 1000000) → (0 ≤ x13 ∧ x13 ≤ 1000000) → ((-1000) ≤ x14 ∧ x14 ≤ (-1)) → (1 ≤ x15 ∧ x15 ≤ 1000) → x12 + ((-1) * x13 + 0) = x14 → x10 + ((-1) * x11 + 0) = x12 → x6 + x5 = x9 → x6 + ((-1) * x5 + 0) = x7 → i1.toInt = 1 → Q (some (.int i1), S)) : am_V none d 149 0 L ([]) S Q := by
  refine sg_use sg_if_x_g hd hP (sg_xs [0, x1, x2, x3]) ⟨⟨Int.le_refl 0, Int.le_refl 0⟩, b1, b2, b3, trivial⟩ trivial trivial trivial ⟨l0, l1, l2, l3, trivial⟩ trivial ?_
  intro z hz x' L' st' S' hx hP' hW hL' hs' hJ hE' hT' hD'
  have q1 : x' 1 = x1 := hx 1 (by decide)
  subst q1
  have q2 : x' 2 = x2 := hx 2 (by decide)
  subst q2
  have q3 : x' 3 = x3 := hx 3 (by decide)
  subst q3
  have eS : S' = S := hW.1 rfl
  subst eS
  simp only [sg_if_x_Z, List.mem_cons, List.not_mem_nil, or_false] at hz
  rcases hz with rfl | rfl | rfl | rfl | rfl | rfl | rfl | rfl | rfl | rfl | rfl | rfl | rfl | rfl | rfl | rfl | rfl | rfl | rfl
  · obtain ⟨f0, f1, f2, f3, f4, f5, -, hσ⟩ := hJ
    obtain ⟨e0, e1, e2, e3, e4, e5, e6, e7, -⟩ := hE'
    obtain ⟨t0, -⟩ := hT'
    intro v hv
    subst hv
    cases v with
    | none => exact hs'.elim
    | some v1 =>
      obtain ⟨⟨i1, rfl, g1⟩, -⟩ := hs'
      exact k0 (x' 4) (x' 5) (x' 6) (x' 7) (x' 8) i1 f0 f1 f2 f3 f4 f5 e0 e1 e2 e3 e4 e5 e6 e7 t0 g1
  · obtain ⟨f0, f1, f2, f3, f4, f5, f6, -, f8, -, hσ⟩ := hJ
    obtain ⟨e0, e1, e2, e3, e4, e5, e6, e7, e8, -⟩ := hE'
    obtain ⟨t0, t1, -⟩ := hT'
    intro v hv
    subst hv
    cases v with
    | none => exact hs'.elim
    | some v1 =>
      obtain ⟨⟨i1, rfl, g1⟩, -⟩ := hs'
      exact k1 (x' 4) (x' 5) (x' 6) (x' 7) (x' 8) (x' 9) i1 f0 f1 f2 f3 f4 f5 f6 f8 e0 e1 e2 e3 e4 e5 e6 e7 e8 t0 t1 g1
  · obtain ⟨f0, f1, f2, f3, f4, f5, f6, -, f8, -, f10, f11, f12, f13, f14, f15, -, hσ⟩ := hJ
    obtain ⟨e0, e1, e2, e3, e4, e5, e6, e7, e8, e9, e10, e11, e12, e13, e14, -⟩ := hE'
    obtain ⟨t0, t1, t2, t3, -⟩ := hT'
    intro v hv
    subst hv
    cases v with
    | none => exact hs'.elim
    | some v1 =>
      obtain ⟨⟨i1, rfl, g1⟩, -⟩ := hs'
      exact k2 (x' 4) (x' 5) (x' 6) (x' 7) (x' 8) (x' 9) (x' 10) (x' 11) (x' 12) (x' 13) (x' 14) (x' 15) i1 f0 f1 f2 f3 f4 f5 f6 f8 f10 f11 f12 f13 f14 f15 e0 e1 e2 e3 e4 e5 e6 e7 e8 e9 e10 e11 e12 e13 e14 t0 t1 t2 t3 g1
  · obtain ⟨f0, f1, f2, f3, f4, f5, f6, -, f8, -, f10, f11, f12, f13, f14, f15, -, hσ⟩ := hJ
    obtain ⟨e0, e1, e2, e3, e4, e5, e6, e7, e8, e9, e10, e11, e12, e13, e14, -⟩ := hE'
    obtain ⟨t0, t1, t2, t3, -⟩ := hT'
    intro v hv
    subst hv
    cases v with
    | none => exact hs'.elim
    | some v1 =>
      obtain ⟨⟨i1, rfl, g1⟩, -⟩ := hs'
      exact k3 (x' 4) (x' 5) (x' 6) (x' 7) (x' 8) (x' 9) (x' 10) (x' 11) (x' 12) (x' 13) (x' 14) (x' 15) i1 f0 f1 f2 f3 f4 f5 f6 f8 f10 f11 f12 f13 f14 f15 e0 e1 e2 e3 e4 e5 e6 e7 e8 e9 e10 e11 e12 e13 e14 t0 t1 t2 t3 g1
  · obtain ⟨f0, f1, f2, f3, f4, f5, f6, -, f8, -, f10, f11, f12, f13, f14, f15, -, hσ⟩ := hJ
    obtain ⟨e0, e1, e2, e3, e4, e5, e6, e7, e8, e9, e10, e11, e12, e13, e14, -⟩ := hE'
    obtain ⟨t0, t1, t2, t3, -⟩ := hT'
    intro v hv
    subst hv
    cases v with
    | none => exact hs'.elim
    | some v1 =>
      obtain ⟨⟨i1, rfl, g1⟩, -⟩ := hs'
      exact k4 (x' 4) (x' 5) (x' 6) (x' 7) (x' 8) (x' 9) (x' 10) (x' 11) (x' 12) (x' 13) (x' 14) (x' 15) i1 f0 f1 f2 f3 f4 f5 f6 f8 f10 f11 f12 f13 f14 f15 e0 e1 e2 e3 e4 e5 e6 e7 e8 e9 e10 e11 e12 e13 e14 t0 t1 t2 t3 g1
  · obtain ⟨f0, f1, f2, f3, f4, f5, f6, -, f8, -, f10, f11, f12, f13, f14, f15, -, hσ⟩ := hJ
    obtain ⟨e0, e1, e2, e3, e4, e5, e6, e7, e8, e9, e10, e11, e12, e13, e14, -⟩ := hE'
    obtain ⟨t0, t1, t2, t3, -⟩ := hT'
    intro v hv
    subst hv
    cases v with
    | none => exact hs'.elim
    | some v1 =>
      obtain ⟨⟨i1, rfl, g1⟩, -⟩ := hs'
      exact k5 (x' 4) (x' 5) (x' 6) (x' 7) (x' 8) (x' 9) (x' 10) (x' 11) (x' 12) (x' 13) (x' 14) (x' 15) i1 f0 f1 f2 f3 f4 f5 f6 f8 f10 f11 f12 f13 f14 f15 e0 e1 e2 e3 e4 e5 e6 e7 e8 e9 e10 e11 e12 e13 e14 t0 t1 t2 t3 g1
  · obtain ⟨f0, f1, f2, f3, f4, f5, f6, f7, -, hσ⟩ := hJ
    obtain ⟨e0, e1, e2, e3, e4, e5, e6, e7, -⟩ := hE'
    obtain ⟨t0, -⟩ := hT'
    intro v hv
    subst hv
    cases v with
    | none => exact hs'.elim
    | some v1 =>
      obtain ⟨⟨i1, rfl, g1⟩, -⟩ := hs'
      exact k6 (x' 4) (x' 5) (x' 6) (x' 7) (x' 8) i1 f0 f1 f2 f3 f4 f5 f6 f7 e0 e1 e2 e3 e4 e5 e6 e7 t0 g1
  · obtain ⟨f0, f1, f2, f3, f4, f5, f6, f7, -, f9, -, hσ⟩ := hJ
    obtain ⟨e0, e1, e2, e3, e4, e5, e6, e7, e8, -⟩ := hE'
    obtain ⟨t0, t1, -⟩ := hT'
    intro v hv
    subst hv
    cases v with
    | none => exact hs'.elim
    | some v1 =>
      obtain ⟨⟨i1, rfl, g1⟩, -⟩ := hs'
      exact k7 (x' 4) (x' 5) (x' 6) (x' 7) (x' 8) (x' 9) i1 f0 f1 f2 f3 f4 f5 f6 f7 f9 e0 e1 e2 e3 e4 e5 e6 e7 e8 t0 t1 g1
  · obtain ⟨f0, f1, f2, f3, f4, f5, f6, f7, -, f9, -, f11, f12, f13, f14, f15, f16, -, hσ⟩ := hJ
    obtain ⟨e0, e1, e2, e3, e4, e5, e6, e7, e8, e9, e10, e11, e12, e13, e14, -⟩ := hE'
    obtain ⟨t0, t1, t2, t3, -⟩ := hT'
    intro v hv
    subst hv
    cases v with
    | none => exact hs'.elim
    | some v1 =>
      obtain ⟨⟨i1, rfl, g1⟩, -⟩ := hs'
      exact k8 (x' 4) (x' 5) (x' 6) (x' 7) (x' 8) (x' 9) (x' 10) (x' 11) (x' 12) (x' 13) (x' 14) (x' 15) i1 f0 f1 f2 f3 f4 f5 f6 f7 f9 f11 f12 f13 f14 f15 f16 e0 e1 e2 e3 e4 e5 e6 e7 e8 e9 e10 e11 e12 e13 e14 t0 t1 t2 t3 g1
  · obtain ⟨f0, f1, f2, f3, f4, f5, f6, f7, -, f9, -, f11, f12, f13, f14, f15, f16, -, hσ⟩ := hJ
    obtain ⟨e0, e1, e2, e3, e4, e5, e6, e7, e8, e9, e10, e11, e12, e13, e14, -⟩ := hE'
    obtain ⟨t0, t1, t2, t3, -⟩ := hT'
    intro v hv
    subst hv
    cases v with
    | none => exact hs'.elim
    | some v1 =>
      obtain ⟨⟨i1, rfl, g1⟩, -⟩ := hs'
      exact k9 (x' 4) (x' 5) (x' 6) (x' 7) (x' 8) (x' 9) (x' 10) (x' 11) (x' 12) (x' 13) (x' 14) (x' 15) i1 f0 f1 f2 f3 f4 f5 f6 f7 f9 f11 f12 f13 f14 f15 f16 e0 e1 e2 e3 e4 e5 e6 e7 e8 e9 e10 e11 e12 e13 e14 t0 t1 t2 t3 g1
  · obtain ⟨f0, f1, f2, f3, f4, f5, f6, f7, -, f9, -, f11, f12, f13, f14, f15, f16, -, hσ⟩ := hJ
    obtain ⟨e0, e1, e2, e3, e4, e5, e6, e7, e8, e9, e10, e11, e12, e13, e14, -⟩ := hE'
    obtain ⟨t0, t1, t2, t3, -⟩ := hT'
    intro v hv
    subst hv
    cases v with
    | none => exact hs'.elim
    | some v1 =>
      obtain ⟨⟨i1, rfl, g1⟩, -⟩ := hs'
      exact k10 (x' 4) (x' 5) (x' 6) (x' 7) (x' 8) (x' 9) (x' 10) (x' 11) (x' 12) (x' 13) (x' 14) (x' 15) i1 f0 f1 f2 f3 f4 f5 f6 f7 f9 f11 f12 f13 f14 f15 f16 e0 e1 e2 e3 e4 e5 e6 e7 e8 e9 e10 e11 e12 e13 e14 t0 t1 t2 t3 g1
  · obtain ⟨f0, f1, f2, f3, f4, f5, f6, f7, -, f9, -, f11, f12, f13, f14, f15, f16, -, hσ⟩ := hJ
    obtain ⟨e0, e1, e2, e3, e4, e5, e6, e7, e8, e9, e10, e11, e12, e13, e14, -⟩ := hE'
    obtain ⟨t0, t1, t2, t3, -⟩ := hT'
    intro v hv
    subst hv
    cases v with
    | none => exact hs'.elim
    | some v1 =>
      obtain ⟨⟨i1, rfl, g1⟩, -⟩ := hs'
      exact k11 (x' 4) (x' 5) (x' 6) (x' 7) (x' 8) (x' 9) (x' 10) (x' 11) (x' 12) (x' 13) (x' 14) (x' 15) i1 f0 f1 f2 f3 f4 f5 f6 f7 f9 f11 f12 f13 f14 f15 f16 e0 e1 e2 e3 e4 e5 e6 e7 e8 e9 e10 e11 e12 e13 e14 t0 t1 t2 t3 g1
  · obtain ⟨f0, f1, f2, f3, f4, f5, -, hσ⟩ := hJ
    obtain ⟨e0, e1, e2, e3, e4, e5, e6, e7, -⟩ := hE'
    obtain ⟨t0, -⟩ := hT'
    intro v hv
    subst hv
    cases v with
    | none => exact hs'.elim
    | some v1 =>
      obtain ⟨⟨i1, rfl, g1⟩, -⟩ := hs'
      exact k12 (x' 4) (x' 5) (x' 6) (x' 7) (x' 8) i1 f0 f1 f2 f3 f4 f5 e0 e1 e2 e3 e4 e5 e6 e7 t0 g1
  · obtain ⟨f0, f1, f2, f3, f4, f5, f6, f7, -, hσ⟩ := hJ
    obtain ⟨e0, e1, e2, e3, e4, e5, e6, e7, -⟩ := hE'
    obtain ⟨t0, -⟩ := hT'
    intro v hv
    subst hv
    cases v with
    | none => exact hs'.elim
    | some v1 =>
      obtain ⟨⟨i1, rfl, g1⟩, -⟩ := hs'
      exact k13 (x' 4) (x' 5) (x' 6) (x' 7) (x' 8) i1 f0 f1 f2 f3 f4 f5 f6 f7 e0 e1 e2 e3 e4 e5 e6 e7 t0 g1
  · obtain ⟨f0, f1, f2, f3, f4, f5, f6, f7, -, f9, -, hσ⟩ := hJ
    obtain ⟨e0, e1, e2, e3, e4, e5, e6, e7, e8, -⟩ := hE'
    obtain ⟨t0, t1, -⟩ := hT'
    intro v hv
    subst hv
    cases v with
    | none => exact hs'.elim
    | some v1 =>
      obtain ⟨⟨i1, rfl, g1⟩, -⟩ := hs'
      exact k14 (x' 4) (x' 5) (x' 6) (x' 7) (x' 8) (x' 9) i1 f0 f1 f2 f3 f4 f5 f6 f7 f9 e0 e1 e2 e3 e4 e5 e6 e7 e8 t0 t1 g1
  · obtain ⟨f0, f1, f2, f3, f4, f5, f6, f7, -, f9, -, f11, f12, f13, f14, f15, f16, -, hσ⟩ := hJ
    obtain ⟨e0, e1, e2, e3, e4, e5, e6, e7, e8, e9, e10, e11, e12, e13, e14, -⟩ := hE'
    obtain ⟨t0, t1, t2, t3, -⟩ := hT'
    intro v hv
    subst hv
    cases v with
    | none => exact hs'.elim
    | some v1 =>
      obtain ⟨⟨i1, rfl, g1⟩, -⟩ := hs'
      exact k15 (x' 4) (x' 5) (x' 6) (x' 7) (x' 8) (x' 9) (x' 10) (x' 11) (x' 12) (x' 13) (x' 14) (x' 15) i1 f0 f1 f2 f3 f4 f5 f6 f7 f9 f11 f12 f13 f14 f15 f16 e0 e1 e2 e3 e4 e5 e6 e7 e8 e9 e10 e11 e12 e13 e14 t0 t1 t2 t3 g1
  · obtain ⟨f0, f1, f2, f3, f4, f5, f6, f7, -, f9, -, f11, f12, f13, f14, f15, f16, -, hσ⟩ := hJ
    obtain ⟨e0, e1, e2, e3, e4, e5, e6, e7, e8, e9, e10, e11, e12, e13, e14, -⟩ := hE'
    obtain ⟨t0, t1, t2, t3, -⟩ := hT'
    intro v hv
    subst hv
    cases v with
    | none => exact hs'.elim
    | some v1 =>
      obtain ⟨⟨i1, rfl, g1⟩, -⟩ := hs'
      exact k16 (x' 4) (x' 5) (x' 6) (x' 7) (x' 8) (x' 9) (x' 10) (x' 11) (x' 12) (x' 13) (x' 14) (x' 15) i1 f0 f1 f2 f3 f4 f5 f6 f7 f9 f11 f12 f13 f14 f15 f16 e0 e1 e2 e3 e4 e5 e6 e7 e8 e9 e10 e11 e12 e13 e14 t0 t1 t2 t3 g1
  · obtain ⟨f0, f1, f2, f3, f4, f5, f6, f7, -, f9, -, f11, f12, f13, f14, f15, f16, -, hσ⟩ := hJ
    obtain ⟨e0, e1, e2, e3, e4, e5, e6, e7, e8, e9, e10, e11, e12, e13, e14, -⟩ := hE'
    obtain ⟨t0, t1, t2, t3, -⟩ := hT'
    intro v hv
    subst hv
    cases v with
    | none => exact hs'.elim
    | some v1 =>
      obtain ⟨⟨i1, rfl, g1⟩, -⟩ := hs'
      exact k17 (x' 4) (x' 5) (x' 6) (x' 7) (x' 8) (x' 9) (x' 10) (x' 11) (x' 12) (x' 13) (x' 14) (x' 15) i1 f0 f1 f2 f3 f4 f5 f6 f7 f9 f11 f12 f13 f14 f15 f16 e0 e1 e2 e3 e4 e5 e6 e7 e8 e9 e10 e11 e12 e13 e14 t0 t1 t2 t3 g1
  · obtain ⟨f0, f1, f2, f3, f4, f5, f6, f7, -, f9, -, f11, f12, f13, f14, f15, f16, -, hσ⟩ := hJ
    obtain ⟨e0, e1, e2, e3, e4, e5, e6, e7, e8, e9, e10, e11, e12, e13, e14, -⟩ := hE'
    obtain ⟨t0, t1, t2, t3, -⟩ := hT'
    intro v hv
    subst hv
    cases v with
    | none => exact hs'.elim
    | some v1 =>
      obtain ⟨⟨i1, rfl, g1⟩, -⟩ := hs'
      exact k18 (x' 4) (x' 5) (x' 6) (x' 7) (x' 8) (x' 9) (x' 10) (x' 11) (x' 12) (x' 13) (x' 14) (x' 15) i1 f0 f1 f2 f3 f4 f5 f6 f7 f9 f11 f12 f13 f14 f15 f16 e0 e1 e2 e3 e4 e5 e6 e7 e8 e9 e10 e11 e12 e13 e14 t0 t1 t2 t3 g1
def sg_if_m_Z : List sg_z := [(0, [], [.inl (false, (0, .ofNat 0, .ofNat 0))], [(2, 0, (0, .ofNat 0, .ofNat 0), (0, .ofNat 0, .ofNat 0), (0, .ofNat 0, .ofNat 0)), (2, 0, (4, .ofNat 1, .ofNat 0), (8, .ofNat 1, .ofNat 0), (0, .ofNat 0, .ofNat 0)), (0, 124, (3, .ofNat 1, .ofNat 0), (8, .ofNat 1, .ofNat 0), (0, .ofNat 0, .ofNat 0)), (0, 125, (3, .ofNat 1, .ofNat 0), (6, .ofNat 1, .ofNat 0), (0, .ofNat 0, .ofNat 0)), (2, 5, (5, .ofNat 1, .ofNat 0), (6, .ofNat 1, .ofNat 0), (0, .ofNat 0, .ofNat 0)), (0, 125, (3, .ofNat 1, .ofNat 0), (6, .ofNat 1, .ofNat 0), (0, .ofNat 0, .ofNat 0)), (0, 125, (2, .ofNat 1, .ofNat 0), (5, .ofNat 1, .ofNat 0), (0, .ofNat 0, .ofNat 0)), (0, 124, (2, .ofNat 1, .ofNat 0), (4, .ofNat 1, .ofNat 0), (0, .ofNat 0, .ofNat 0))], [(1, [(.ofNat 0, .ofNat 15)]), (2, [(.ofNat 0, .ofNat 7)]), (3, [(.ofNat 0, .ofNat 7)]), (4, [(.ofNat 0, .ofNat 1)]), (5, [(.ofNat 0, .ofNat 9)]), (6, [(.ofNat 0, .ofNat 9)]), (8, [(.ofNat 0, .ofNat 1)])], [], []),
  (0, [], [.inl (false, (0, .ofNat 0, .ofNat 0))], [(2, 0, (0, .ofNat 0, .ofNat 0), (0, .ofNat 0, .ofNat 0), (0, .ofNat 0, .ofNat 0)), (2, 5, (9, .ofNat 1, .ofNat 0), (0, .ofNat 0, .ofNat 0), (0, .ofNat 0, .ofNat 0)), (0, 125, (3, .ofNat 1, .ofNat 0), (6, .ofNat 1, .ofNat 0), (0, .ofNat 0, .ofNat 0)), (2, 0, (7, .ofNat 1, .ofNat 0), (0, .ofNat 0, .ofNat 0), (0, .ofNat 0, .ofNat 0)), (2, 1, (4, .ofNat 1, .ofNat 0), (8, .ofNat 1, .ofNat 0), (0, .ofNat 0, .ofNat 0)), (0, 124, (3, .ofNat 1, .ofNat 0), (8, .ofNat 1, .ofNat 0), (0, .ofNat 0, .ofNat 0)), (0, 125, (3, .ofNat 1, .ofNat 0), (6, .ofNat 1, .ofNat 0), (0, .ofNat 0, .ofNat 0)), (2, 5, (5, .ofNat 1, .ofNat 0), (6, .ofNat 1, .ofNat 0), (0, .ofNat 0, .ofNat 0)), (0, 125, (3, .ofNat 1, .ofNat 0), (6, .ofNat 1, .ofNat 0), (0, .ofNat 0, .ofNat 0)), (0, 125, (2, .ofNat 1, .ofNat 0), (5, .ofNat 1, .ofNat 0), (0, .ofNat 0, .ofNat 0)), (0, 124, (2, .ofNat 1, .ofNat 0), (4, .ofNat 1, .ofNat 0), (0, .ofNat 0, .ofNat 0))], [(1, [(.ofNat 0, .ofNat 15)]), (2, [(.ofNat 0, .ofNat 7)]), (3, [(.ofNat 0, .ofNat 7)]), (4, [(.ofNat 0, .ofNat 1)]), (5, [(.ofNat 0, .ofNat 9)]), (6, [(.ofNat 0, .ofNat 9)]), (7, [(.ofNat 0, .ofNat 0)]), (8, [(.ofNat 0, .ofNat 1)]), (9, [(.ofNat 0, .ofNat 0)])], [((5, .ofNat 1, .ofNat 0), (6, .ofNat 1, .ofNat 0), (9, .ofNat 1, .ofNat 0)), ((6, .ofNat 1, .ofNat 0), (5, .negSucc 0, .ofNat 0), (7, .ofNat 1, .ofNat 0))], []),
  (0, [], [.inl (false, (0, .ofNat 0, .ofNat 0))], [(2, 0, (0, .ofNat 0, .ofNat 0), (0, .ofNat 0, .ofNat 0), (0, .ofNat 0, .ofNat 0)), (2, 4, (15, .ofNat 1, .ofNat 0), (14, .ofNat 1, .ofNat 0), (0, .ofNat 0, .ofNat 0)), (0, 128, (1, .ofNat 1, .ofNat 0), (14, .ofNat 1, .ofNat 0), (0, .ofNat 0, .ofNat 0)), (0, 127, (1, .ofNat 1, .ofNat 0), (13, .ofNat 1, .ofNat 0), (0, .ofNat 0, .ofNat 0)), (0, 123, (3, .ofNat 1, .ofNat 0), (11, .ofNat 1, .ofNat 0), (0, .ofNat 0, .ofNat 0)), (0, 123, (2, .ofNat 1, .ofNat 0), (10, .ofNat 1, .ofNat 0), (0, .ofNat 0, .ofNat 0)), (2, 1, (0, .ofNat 0, .ofNat 1), (0, .ofNat 0, .ofNat 0), (0, .ofNat 0, .ofNat 0)), (2, 4, (9, .ofNat 1, .ofNat 0), (0, .ofNat 0, .ofNat 0), (0, .ofNat 0, .ofNat 0)), (0, 125, (3, .ofNat 1, .ofNat 0), (6, .ofNat 1, .ofNat 0), (0, .ofNat 0, .ofNat 0)), (2, 0, (7, .ofNat 1, .ofNat 0), (0, .ofNat 0, .ofNat 0), (0, .ofNat 0, .ofNat 0)), (2, 1, (4, .ofNat 1, .ofNat 0), (8, .ofNat 1, .ofNat 0), (0, .ofNat 0, .ofNat 0)), (0, 124, (3, .ofNat 1, .ofNat 0), (8, .ofNat 1, .ofNat 0), (0, .ofNat 0, .ofNat 0)), (0, 125, (3, .ofNat 1, .ofNat 0), (6, .ofNat 1, .ofNat 0), (0, .ofNat 0, .ofNat 0)), (2, 5, (5, .ofNat 1, .ofNat 0), (6, .ofNat 1, .ofNat 0), (0, .ofNat 0, .ofNat 0)), (0, 125, (3, .ofNat 1, .ofNat 0), (6, .ofNat 1, .ofNat 0), (0, .ofNat 0, .ofNat 0)), (0, 125, (2, .ofNat 1, .ofNat 0), (5, .ofNat 1, .ofNat 0), (0, .ofNat 0, .ofNat 0)), (0, 124, (2, .ofNat 1, .ofNat 0), (4, .ofNat 1, .ofNat 0), (0, .ofNat 0, .ofNat 0))], [(1, [(.ofNat 0, .ofNat 15)]), (2, [(.ofNat 0, .ofNat 7)]), (3, [(.ofNat 0, .ofNat 7)]), (4, [(.ofNat 0, .ofNat 1)]), (5, [(.ofNat 0, .ofNat 9)]), (6, [(.ofNat 0, .ofNat 9)]), (7, [(.ofNat 0, .ofNat 0)]), (8, [(.ofNat 0, .ofNat 1)]), (9, [(.ofNat 1, .ofNat 18)]), (10, [(.ofNat 0, .ofNat 1000000)]), (11, [(.ofNat 0, .ofNat 1000000)]), (12, [(.negSucc 999999, .ofNat 1000000)]), (13, [(.ofNat 0, .ofNat 1000000)]), (14, [(.ofNat 0, .ofNat 1000)]), (15, [(.ofNat 1, .ofNat 1000000)])], [((12, .ofNat 1, .ofNat 0), (13, .negSucc 0, .ofNat 0), (15, .ofNat 1, .ofNat 0)), ((10, .ofNat 1, .ofNat 0), (11, .negSucc 0, .ofNat 0), (12, .ofNat 1, .ofNat 0)), ((5, .ofNat 1, .ofNat 0), (6, .ofNat 1, .ofNat 0), (9, .ofNat 1, .ofNat 0)), ((6, .ofNat 1, .ofNat 0), (5, .negSucc 0, .ofNat 0), (7, .ofNat 1, .ofNat 0))], []),
  (0, [], [.inl (false, (0, .ofNat 0, .ofNat 0))], [(2, 0, (0, .ofNat 0, .ofNat 0), (0, .ofNat 0, .ofNat 0), (0, .ofNat 0, .ofNat 0)), (2, 4, (16, .ofNat 1, .ofNat 0), (14, .ofNat 1, .ofNat 0), (0, .ofNat 0, .ofNat 0)), (2, 5, (15, .ofNat 1, .ofNat 0), (14, .ofNat 1, .ofNat 0), (0, .ofNat 0, .ofNat 0)), (0, 128, (1, .ofNat 1, .ofNat 0), (14, .ofNat 1, .ofNat 0), (0, .ofNat 0, .ofNat 0)), (0, 127, (1, .ofNat 1, .ofNat 0), (13, .ofNat 1, .ofNat 0), (0, .ofNat 0, .ofNat 0)), (0, 123, (3, .ofNat 1, .ofNat 0), (11, .ofNat 1, .ofNat 0), (0, .ofNat 0, .ofNat 0)), (0, 123, (2, .ofNat 1, .ofNat 0), (10, .ofNat 1, .ofNat 0), (0, .ofNat 0, .ofNat 0)), (2, 1, (0, .ofNat 0, .ofNat 1), (0, .ofNat 0, .ofNat 0), (0, .ofNat 0, .ofNat 0)), (2, 4, (9, .ofNat 1, .ofNat 0), (0, .ofNat 0, .ofNat 0), (0, .ofNat 0, .ofNat 0)), (0, 125, (3, .ofNat 1, .ofNat 0), (6, .ofNat 1, .ofNat 0), (0, .ofNat 0, .ofNat 0)), (2, 0, (7, .ofNat 1, .ofNat 0), (0, .ofNat 0, .ofNat 0), (0, .ofNat 0, .ofNat 0)), (2, 1, (4, .ofNat 1, .ofNat 0), (8, .ofNat 1, .ofNat 0), (0, .ofNat 0, .ofNat 0)), (0, 124, (3, .ofNat 1, .ofNat 0), (8, .ofNat 1, .ofNat 0), (0, .ofNat 0, .ofNat 0)), (0, 125, (3, .ofNat 1, .ofNat 0), (6, .ofNat 1, .ofNat 0), (0, .ofNat 0, .ofNat 0)), (2, 5, (5, .ofNat 1, .ofNat 0), (6, .ofNat 1, .ofNat 0), (0, .ofNat 0, .ofNat 0)), (0, 125, (3, .ofNat 1, .ofNat 0), (6, .ofNat 1, .ofNat 0), (0, .ofNat 0, .ofNat 0)), (0, 125, (2, .ofNat 1, .ofNat 0), (5, .ofNat 1, .ofNat 0), (0, .ofNat 0, .ofNat 0)), (0, 124, (2, .ofNat 1, .ofNat 0), (4, .ofNat 1, .ofNat 0), (0, .ofNat 0, .ofNat 0))], [(1, [(.ofNat 0, .ofNat 15)]), (2, [(.ofNat 0, .ofNat 7)]), (3, [(.ofNat 0, .ofNat 7)]), (4, [(.ofNat 0, .ofNat 1)]), (5, [(.ofNat 0, .ofNat 9)]), (6, [(.ofNat 0, .ofNat 9)]), (7, [(.ofNat 0, .ofNat 0)]), (8, [(.ofNat 0, .ofNat 1)]), (9, [(.ofNat 1, .ofNat 18)]), (10, [(.ofNat 0, .ofNat 1000000)]), (11, [(.ofNat 0, .ofNat 1000000)]), (12, [(.negSucc 999999, .ofNat 1000000)]), (13, [(.ofNat 0, .ofNat 1000000)]), (14, [(.ofNat 0, .ofNat 1000)]), (15, [(.negSucc 1999999, .ofNat 1000)]), (16, [(.ofNat 1, .ofNat 2000000)])], [((13, .ofNat 1, .ofNat 0), (12, .negSucc 0, .ofNat 0), (16, .ofNat 1, .ofNat 0)), ((12, .ofNat 1, .ofNat 0), (13, .negSucc 0, .ofNat 0), (15, .ofNat 1, .ofNat 0)), ((10, .ofNat 1, .ofNat 0), (11, .negSucc 0, .ofNat 0), (12, .ofNat 1, .ofNat 0)), ((5, .ofNat 1, .ofNat 0), (6, .ofNat 1, .ofNat 0), (9, .ofNat 1, .ofNat 0)), ((6, .ofNat 1, .ofNat 0), (5, .negSucc 0, .ofNat 0), (7, .ofNat 1, .ofNat 0))], []),
  (0, [], [.inl (false, (0, .ofNat 0, .ofNat 1))], [(2, 1, (0, .ofNat 0, .ofNat 1), (0, .ofNat 0, .ofNat 0), (0, .ofNat 0, .ofNat 0)), (2, 5, (16, .ofNat 1, .ofNat 0), (14, .ofNat 1, .ofNat 0), (0, .ofNat 0, .ofNat 0)), (2, 5, (15, .ofNat 1, .ofNat 0), (14, .ofNat 1, .ofNat 0), (0, .ofNat 0, .ofNat 0)), (0, 128, (1, .ofNat 1, .ofNat 0), (14, .ofNat 1, .ofNat 0), (0, .ofNat 0, .ofNat 0)), (0, 127, (1, .ofNat 1, .ofNat 0), (13, .ofNat 1, .ofNat 0), (0, .ofNat 0, .ofNat 0)), (0, 123, (3, .ofNat 1, .ofNat 0), (11, .ofNat 1, .ofNat 0), (0, .ofNat 0, .ofNat 0)), (0, 123, (2, .ofNat 1, .ofNat 0), (10, .ofNat 1, .ofNat 0), (0, .ofNat 0, .ofNat 0)), (2, 1, (0, .ofNat 0, .ofNat 1), (0, .ofNat 0, .ofNat 0), (0, .ofNat 0, .ofNat 0)), (2, 4, (9, .ofNat 1, .ofNat 0), (0, .ofNat 0, .ofNat 0), (0, .ofNat 0, .ofNat 0)), (0, 125, (3, .ofNat 1, .ofNat 0), (6, .ofNat 1, .ofNat 0), (0, .ofNat 0, .ofNat 0)), (2, 0, (7, .ofNat 1, .ofNat 0), (0, .ofNat 0, .ofNat 0), (0, .ofNat 0, .ofNat 0)), (2, 1, (4, .ofNat 1, .ofNat 0), (8, .ofNat 1, .ofNat 0), (0, .ofNat 0, .ofNat 0)), (0, 124, (3, .ofNat 1, .ofNat 0), (8, .ofNat 1, .ofNat 0), (0, .ofNat 0, .ofNat 0)), (0, 125, (3, .ofNat 1, .ofNat 0), (6, .ofNat 1, .ofNat 0), (0, .ofNat 0, .ofNat 0)), (2, 5, (5, .ofNat 1, .ofNat 0), (6, .ofNat 1, .ofNat 0), (0, .ofNat 0, .ofNat 0)), (0, 125, (3, .ofNat 1, .ofNat 0), (6, .ofNat 1, .ofNat 0), (0, .ofNat 0, .ofNat 0)), (0, 125, (2, .ofNat 1, .ofNat 0), (5, .ofNat 1, .ofNat 0), (0, .ofNat 0, .ofNat 0)), (0, 124, (2, .ofNat 1, .ofNat 0), (4, .ofNat 1, .ofNat 0), (0, .ofNat 0, .ofNat 0))], [(1, [(.ofNat 0, .ofNat 15)]), (2, [(.ofNat 0, .ofNat 7)]), (3, [(.ofNat 0, .ofNat 7)]), (4, [(.ofNat 0, .ofNat 1)]), (5, [(.ofNat 0, .ofNat 9)]), (6, [(.ofNat 0, .ofNat 9)]), (7, [(.ofNat 0, .ofNat 0)]), (8, [(.ofNat 0, .ofNat 1)]), (9, [(.ofNat 1, .ofNat 18)]), (10, [(.ofNat 0, .ofNat 1000000)]), (11, [(.ofNat 0, .ofNat 1000000)]), (12, [(.negSucc 999999, .ofNat 1000000)]), (13, [(.ofNat 0, .ofNat 1000000)]), (14, [(.ofNat 0, .ofNat 1000)]), (15, [(.negSucc 1999999, .ofNat 1000)]), (16, [(.negSucc 999999, .ofNat 1000)])], [((13, .ofNat 1, .ofNat 0), (12, .negSucc 0, .ofNat 0), (16, .ofNat 1, .ofNat 0)), ((12, .ofNat 1, .ofNat 0), (13, .negSucc 0, .ofNat 0), (15, .ofNat 1, .ofNat 0)), ((10, .ofNat 1, .ofNat 0), (11, .negSucc 0, .ofNat 0), (12, .ofNat 1, .ofNat 0)), ((5, .ofNat 1, .ofNat 0), (6, .ofNat 1, .ofNat 0), (9, .ofNat 1, .ofNat 0)), ((6, .ofNat 1, .ofNat 0), (5, .negSucc 0, .ofNat 0), (7, .ofNat 1, .ofNat 0))], []),
  (0, [], [.inl (false, (0, .ofNat 0, .ofNat 0))], [(2, 0, (0, .ofNat 0, .ofNat 0), (0, .ofNat 0, .ofNat 0), (0, .ofNat 0, .ofNat 0)), (2, 1, (7, .ofNat 1, .ofNat 0), (0, .ofNat 0, .ofNat 2), (0, .ofNat 0, .ofNat 0)), (2, 1, (7, .ofNat 1, .ofNat 0), (0, .ofNat 0, .ofNat 0), (0, .ofNat 0, .ofNat 0)), (2, 1, (4, .ofNat 1, .ofNat 0), (8, .ofNat 1, .ofNat 0), (0, .ofNat 0, .ofNat 0)), (0, 124, (3, .ofNat 1, .ofNat 0), (8, .ofNat 1, .ofNat 0), (0, .ofNat 0, .ofNat 0)), (0, 125, (3, .ofNat 1, .ofNat 0), (6, .ofNat 1, .ofNat 0), (0, .ofNat 0, .ofNat 0)), (2, 5, (5, .ofNat 1, .ofNat 0), (6, .ofNat 1, .ofNat 0), (0, .ofNat 0, .ofNat 0)), (0, 125, (3, .ofNat 1, .ofNat 0), (6, .ofNat 1, .ofNat 0), (0, .ofNat 0, .ofNat 0)), (0, 125, (2, .ofNat 1, .ofNat 0), (5, .ofNat 1, .ofNat 0), (0, .ofNat 0, .ofNat 0)), (0, 124, (2, .ofNat 1, .ofNat 0), (4, .ofNat 1, .ofNat 0), (0, .ofNat 0, .ofNat 0))], [(1, [(.ofNat 0, .ofNat 15)]), (2, [(.ofNat 0, .ofNat 7)]), (3, [(.ofNat 0, .ofNat 7)]), (4, [(.ofNat 0, .ofNat 1)]), (5, [(.ofNat 0, .ofNat 9)]), (6, [(.ofNat 0, .ofNat 9)]), (7, [(.negSucc 8, .negSucc 0), (.ofNat 1, .ofNat 1), (.ofNat 3, .ofNat 9)]), (8, [(.ofNat 0, .ofNat 1)])], [((6, .ofNat 1, .ofNat 0), (5, .negSucc 0, .ofNat 0), (7, .ofNat 1, .ofNat 0))], []),
  (0, [], [.inl (false, (0, .ofNat 0, .ofNat 0))], [(2, 0, (0, .ofNat 0, .ofNat 0), (0, .ofNat 0, .ofNat 0), (0, .ofNat 0, .ofNat 0)), (2, 5, (9, .ofNat 1, .ofNat 0), (0, .ofNat 0, .ofNat 0), (0, .ofNat 0, .ofNat 0)), (0, 125, (3, .ofNat 1, .ofNat 0), (6, .ofNat 1, .ofNat 0), (0, .ofNat 0, .ofNat 0)), (2, 0, (7, .ofNat 1, .ofNat 0), (0, .ofNat 0, .ofNat 2), (0, .ofNat 0, .ofNat 0)), (2, 1, (7, .ofNat 1, .ofNat 0), (0, .ofNat 0, .ofNat 0), (0, .ofNat 0, .ofNat 0)), (2, 1, (4, .ofNat 1, .ofNat 0), (8, .ofNat 1, .ofNat 0), (0, .ofNat 0, .ofNat 0)), (0, 124, (3, .ofNat 1, .ofNat 0), (8, .ofNat 1, .ofNat 0), (0, .ofNat 0, .ofNat 0)), (0, 125, (3, .ofNat 1, .ofNat 0), (6, .ofNat 1, .ofNat 0), (0, .ofNat 0, .ofNat 0)), (2, 5, (5, .ofNat 1, .ofNat 0), (6, .ofNat 1, .ofNat 0), (0, .ofNat 0, .ofNat 0)), (0, 125, (3, .ofNat 1, .ofNat 0), (6, .ofNat 1, .ofNat 0), (0, .ofNat 0, .ofNat 0)), (0, 125, (2, .ofNat 1, .ofNat 0), (5, .ofNat 1, .ofNat 0), (0, .ofNat 0, .ofNat 0)), (0, 124, (2, .ofNat 1, .ofNat 0), (4, .ofNat 1, .ofNat 0), (0, .ofNat 0, .ofNat 0))], [(1, [(.ofNat 0, .ofNat 15)]), (2, [(.ofNat 0, .ofNat 7)]), (3, [(.ofNat 0, .ofNat 7)]), (4, [(.ofNat 0, .ofNat 1)]), (5, [(.ofNat 0, .ofNat 9)]), (6, [(.ofNat 0, .ofNat 9)]), (7, [(.ofNat 2, .ofNat 2)]), (8, [(.ofNat 0, .ofNat 1)]), (9, [(.ofNat 0, .ofNat 0)])], [((5, .ofNat 1, .ofNat 0), (6, .ofNat 1, .ofNat 0), (9, .ofNat 1, .ofNat 0)), ((6, .ofNat 1, .ofNat 0), (5, .negSucc 0, .ofNat 0), (7, .ofNat 1, .ofNat 0))], []),
  (0, [], [.inl (false, (0, .ofNat 0, .ofNat 0))], [(2, 0, (0, .ofNat 0, .ofNat 0), (0, .ofNat 0, .ofNat 0), (0, .ofNat 0, .ofNat 0)), (2, 4, (15, .ofNat 1, .ofNat 0), (14, .ofNat 1, .ofNat 0), (0, .ofNat 0, .ofNat 0)), (0, 128, (1, .ofNat 1, .ofNat 0), (14, .ofNat 1, .ofNat 0), (0, .ofNat 0, .ofNat 0)), (0, 127, (1, .ofNat 1, .ofNat 0), (13, .ofNat 1, .ofNat 0), (0, .ofNat 0, .ofNat 0)), (0, 123, (3, .ofNat 1, .ofNat 0), (11, .ofNat 1, .ofNat 0), (0, .ofNat 0, .ofNat 0)), (0, 123, (2, .ofNat 1, .ofNat 0), (10, .ofNat 1, .ofNat 0), (0, .ofNat 0, .ofNat 0)), (2, 1, (0, .ofNat 0, .ofNat 1), (0, .ofNat 0, .ofNat 0), (0, .ofNat 0, .ofNat 0)), (2, 4, (9, .ofNat 1, .ofNat 0), (0, .ofNat 0, .ofNat 0), (0, .ofNat 0, .ofNat 0)), (0, 125, (3, .ofNat 1, .ofNat 0), (6, .ofNat 1, .ofNat 0), (0, .ofNat 0, .ofNat 0)), (2, 0, (7, .ofNat 1, .ofNat 0), (0, .ofNat 0, .ofNat 2), (0, .ofNat 0, .ofNat 0)), (2, 1, (7, .ofNat 1, .ofNat 0), (0, .ofNat 0, .ofNat 0), (0, .ofNat 0, .ofNat 0)), (2, 1, (4, .ofNat 1, .ofNat 0), (8, .ofNat 1, .ofNat 0), (0, .ofNat 0, .ofNat 0)), (0, 124, (3, .ofNat 1, .ofNat 0), (8, .ofNat 1, .ofNat 0), (0, .ofNat 0, .ofNat 0)), (0, 125, (3, .ofNat 1, .ofNat 0), (6, .ofNat 1, .ofNat 0), (0, .ofNat 0, .ofNat 0)), (2, 5, (5, .ofNat 1, .ofNat 0), (6, .ofNat 1, .ofNat 0), (0, .ofNat 0, .ofNat 0)), (0, 125, (3, .ofNat 1, .ofNat 0), (6, .ofNat 1, .ofNat 0), (0, .ofNat 0, .ofNat 0)), (0, 125, (2, .ofNat 1, .ofNat 0), (5, .ofNat 1, .ofNat 0), (0, .ofNat 0, .ofNat 0)), (0, 124, (2, .ofNat 1, .ofNat 0), (4, .ofNat 1, .ofNat 0), (0, .ofNat 0, .ofNat 0))], [(1, [(.ofNat 0, .ofNat 15)]), (2, [(.ofNat 0, .ofNat 7)]), (3, [(.ofNat 0, .ofNat 7)]), (4, [(.ofNat 0, .ofNat 1)]), (5, [(.ofNat 0, .ofNat 9)]), (6, [(.ofNat 0, .ofNat 9)]), (7, [(.ofNat 2, .ofNat 2)]), (8, [(.ofNat 0, .ofNat 1)]), (9, [(.ofNat 1, .ofNat 18)]), (10, [(.ofNat 0, .ofNat 1000000)]), (11, [(.ofNat 0, .ofNat 1000000)]), (12, [(.negSucc 999999, .ofNat 1000000)]), (13, [(.ofNat 0, .ofNat 1000000)]), (14, [(.ofNat 0, .ofNat 1000)]), (15, [(.ofNat 1, .ofNat 1000000)])], [((12, .ofNat 1, .ofNat 0), (13, .negSucc 0, .ofNat 0), (15, .ofNat 1, .ofNat 0)), ((10, .ofNat 1, .ofNat 0), (11, .negSucc 0, .ofNat 0), (12, .ofNat 1, .ofNat 0)), ((5, .ofNat 1, .ofNat 0), (6, .ofNat 1, .ofNat 0), (9, .ofNat 1, .ofNat 0)), ((6, .ofNat 1, .ofNat 0), (5, .negSucc 0, .ofNat 0), (7, .ofNat 1, .ofNat 0))], []),
  (0, [], [.inl (false, (0, .ofNat 0, .ofNat 0))], [(2, 0, (0, .ofNat 0, .ofNat 0), (0, .ofNat 0, .ofNat 0), (0, .ofNat 0, .ofNat 0)), (2, 4, (16, .ofNat 1, .ofNat 0), (14, .ofNat 1, .ofNat 0), (0, .ofNat 0, .ofNat 0)), (2, 5, (15, .ofNat 1, .ofNat 0), (14, .ofNat 1, .ofNat 0), (0, .ofNat 0, .ofNat 0)), (0, 128, (1, .ofNat 1, .ofNat 0), (14, .ofNat 1, .ofNat 0), (0, .ofNat 0, .ofNat 0)), (0, 127, (1, .ofNat 1, .ofNat 0), (13, .ofNat 1, .ofNat 0), (0, .ofNat 0, .ofNat 0)), (0, 123, (3, .ofNat 1, .ofNat 0), (11, .ofNat 1, .ofNat 0), (0, .ofNat 0, .ofNat 0)), (0, 123, (2, .ofNat 1, .ofNat 0), (10, .ofNat 1, .ofNat 0), (0, .ofNat 0, .ofNat 0)), (2, 1, (0, .ofNat 0, .ofNat 1), (0, .ofNat 0, .ofNat 0), (0, .ofNat 0, .ofNat 0)), (2, 4, (9, .ofNat 1, .ofNat 0), (0, .ofNat 0, .ofNat 0), (0, .ofNat 0, .ofNat 0)), (0, 125, (3, .ofNat 1, .ofNat 0), (6, .ofNat 1, .ofNat 0), (0, .ofNat 0, .ofNat 0)), (2, 0, (7, .ofNat 1, .ofNat 0), (0, .ofNat 0, .ofNat 2), (0, .ofNat 0, .ofNat 0)), (2, 1, (7, .ofNat 1, .ofNat 0), (0, .ofNat 0, .ofNat 0), (0, .ofNat 0, .ofNat 0)), (2, 1, (4, .ofNat 1, .ofNat 0), (8, .ofNat 1, .ofNat 0), (0, .ofNat 0, .ofNat 0)), (0, 124, (3, .ofNat 1, .ofNat 0), (8, .ofNat 1, .ofNat 0), (0, .ofNat 0, .ofNat 0)), (0, 125, (3, .ofNat 1, .ofNat 0), (6, .ofNat 1, .ofNat 0), (0, .ofNat 0, .ofNat 0)), (2, 5, (5, .ofNat 1, .ofNat 0), (6, .ofNat 1, .ofNat 0), (0, .ofNat 0, .ofNat 0)), (0, 125, (3, .ofNat 1, .ofNat 0), (6, .ofNat 1, .ofNat 0), (0, .ofNat 0, .ofNat 0)), (0, 125, (2, .ofNat 1, .ofNat 0), (5, .ofNat 1, .ofNat 0), (0, .ofNat 0, .ofNat 0)), (0, 124, (2, .ofNat 1, .ofNat 0), (4, .ofNat 1, .ofNat 0), (0, .ofNat 0, .ofNat 0))], [(1, [(.ofNat 0, .ofNat 15)]), (2, [(.ofNat 0, .ofNat 7)]), (3, [(.ofNat 0, .ofNat 7)]), (4, [(.ofNat 0, .ofNat 1)]), (5, [(.ofNat 0, .ofNat 9)]), (6, [(.ofNat 0, .ofNat 9)]), (7, [(.ofNat 2, .ofNat 2)]), (8, [(.ofNat 0, .ofNat 1)]), (9, [(.ofNat 1, .ofNat 18)]), (10, [(.ofNat 0, .ofNat 1000000)]), (11, [(.ofNat 0, .ofNat 1000000)]), (12, [(.negSucc 999999, .ofNat 1000000)]), (13, [(.ofNat 0, .ofNat 1000000)]), (14, [(.ofNat 0, .ofNat 1000)]), (15, [(.negSucc 1999999, .ofNat 1000)]), (16, [(.ofNat 1, .ofNat 2000000)])], [((13, .ofNat 1, .ofNat 0), (12, .negSucc 0, .ofNat 0), (16, .ofNat 1, .ofNat 0)), ((12, .ofNat 1, .ofNat 0), (13, .negSucc 0, .ofNat 0), (15, .ofNat 1, .ofNat 0)), ((10, .ofNat 1, .ofNat 0), (11, .negSucc 0, .ofNat 0), (12, .ofNat 1, .ofNat 0)), ((5, .ofNat 1, .ofNat 0), (6, .ofNat 1, .ofNat 0), (9, .ofNat 1, .ofNat 0)), ((6, .ofNat 1, .ofNat 0), (5, .negSucc 0, .ofNat 0), (7, .ofNat 1, .ofNat 0))], []),
  (0, [], [.inl (false, (0, .ofNat 0, .ofNat 1))], [(2, 1, (0, .ofNat 0, .ofNat 1), (0, .ofNat 0, .ofNat 0), (0, .ofNat 0, .ofNat 0)), (2, 5, (16, .ofNat 1, .ofNat 0), (14, .ofNat 1, .ofNat 0), (0, .ofNat 0, .ofNat 0)), (2, 5, (15, .ofNat 1, .ofNat 0), (14, .ofNat 1, .ofNat 0), (0, .ofNat 0, .ofNat 0)), (0, 128, (1, .ofNat 1, .ofNat 0), (14, .ofNat 1, .ofNat 0), (0, .ofNat 0, .ofNat 0)), (0, 127, (1, .ofNat 1, .ofNat 0), (13, .ofNat 1, .ofNat 0), (0, .ofNat 0, .ofNat 0)), (0, 123, (3, .ofNat 1, .ofNat 0), (11, .ofNat 1, .ofNat 0), (0, .ofNat 0, .ofNat 0)), (0, 123, (2, .ofNat 1, .ofNat 0), (10, .ofNat 1, .ofNat 0), (0, .ofNat 0, .ofNat 0)), (2, 1, (0, .ofNat 0, .ofNat 1), (0, .ofNat 0, .ofNat 0), (0, .ofNat 0, .ofNat 0)), (2, 4, (9, .ofNat 1, .ofNat 0), (0, .ofNat 0, .ofNat 0), (0, .ofNat 0, .ofNat 0)), (0, 125, (3, .ofNat 1, .ofNat 0), (6, .ofNat 1, .ofNat 0), (0, .ofNat 0, .ofNat 0)), (2, 0, (7, .ofNat 1, .ofNat 0), (0, .ofNat 0, .ofNat 2), (0, .ofNat 0, .ofNat 0)), (2, 1, (7, .ofNat 1, .ofNat 0), (0, .ofNat 0, .ofNat 0), (0, .ofNat 0, .ofNat 0)), (2, 1, (4, .ofNat 1, .ofNat 0), (8, .ofNat 1, .ofNat 0), (0, .ofNat 0, .ofNat 0)), (0, 124, (3, .ofNat 1, .ofNat 0), (8, .ofNat 1, .ofNat 0), (0, .ofNat 0, .ofNat 0)), (0, 125, (3, .ofNat 1, .ofNat 0), (6, .ofNat 1, .ofNat 0), (0, .ofNat 0, .ofNat 0)), (2, 5, (5, .ofNat 1, .ofNat 0), (6, .ofNat 1, .ofNat 0), (0, .ofNat 0, .ofNat 0)), (0, 125, (3, .ofNat 1, .ofNat 0), (6, .ofNat 1, .ofNat 0), (0, .ofNat 0, .ofNat 0)), (0, 125, (2, .ofNat 1, .ofNat 0), (5, .ofNat 1, .ofNat 0), (0, .ofNat 0, .ofNat 0)), (0, 124, (2, .ofNat 1, .ofNat 0), (4, .ofNat 1, .ofNat 0), (0, .ofNat 0, .ofNat 0))], [(1, [(.ofNat 0, .ofNat 15)]), (2, [(.ofNat 0, .ofNat 7)]), (3, [(.ofNat 0, .ofNat 7)]), (4, [(.ofNat 0, .ofNat 1)]), (5, [(.ofNat 0, .ofNat 9)]), (6, [(.ofNat 0, .ofNat 9)]), (7, [(.ofNat 2, .ofNat 2)]), (8, [(.ofNat 0, .ofNat 1)]), (9, [(.ofNat 1, .ofNat 18)]), (10, [(.ofNat 0, .ofNat 1000000)]), (11, [(.ofNat 0, .ofNat 1000000)]), (12, [(.negSucc 999999, .ofNat 1000000)]), (13, [(.ofNat 0, .ofNat 1000000)]), (14, [(.ofNat 0, .ofNat 1000)]), (15, [(.negSucc 1999999, .ofNat 1000)]), (16, [(.negSucc 999999, .ofNat 1000)])], [((13, .ofNat 1, .ofNat 0), (12, .negSucc 0, .ofNat 0), (16, .ofNat 1, .ofNat 0)), ((12, .ofNat 1, .ofNat 0), (13, .negSucc 0, .ofNat 0), (15, .ofNat 1, .ofNat 0)), ((10, .ofNat 1, .ofNat 0), (11, .negSucc 0, .ofNat 0), (12, .ofNat 1, .ofNat 0)), ((5, .ofNat 1, .ofNat 0), (6, .ofNat 1, .ofNat 0), (9, .ofNat 1, .ofNat 0)), ((6, .ofNat 1, .ofNat 0), (5, .negSucc 0, .ofNat 0), (7, .ofNat 1, .ofNat 0))], []),
  (0, [], [.inl (false, (0, .ofNat 0, .ofNat 0))], [(2, 0, (0, .ofNat 0, .ofNat 0), (0, .ofNat 0, .ofNat 0), (0, .ofNat 0, .ofNat 0)), (2, 0, (4, .ofNat 1, .ofNat 0), (8, .ofNat 1, .ofNat 0), (0, .ofNat 0, .ofNat 0)), (0, 124, (3, .ofNat 1, .ofNat 0), (8, .ofNat 1, .ofNat 0), (0, .ofNat 0, .ofNat 0)), (0, 125, (3, .ofNat 1, .ofNat 0), (6, .ofNat 1, .ofNat 0), (0, .ofNat 0, .ofNat 0)), (2, 4, (5, .ofNat 1, .ofNat 0), (6, .ofNat 1, .ofNat 0), (0, .ofNat 0, .ofNat 0)), (0, 125, (3, .ofNat 1, .ofNat 0), (6, .ofNat 1, .ofNat 0), (0, .ofNat 0, .ofNat 0)), (0, 125, (2, .ofNat 1, .ofNat 0), (5, .ofNat 1, .ofNat 0), (0, .ofNat 0, .ofNat 0)), (0, 124, (2, .ofNat 1, .ofNat 0), (4, .ofNat 1, .ofNat 0), (0, .ofNat 0, .ofNat 0))], [(1, [(.ofNat 0, .ofNat 15)]), (2, [(.ofNat 0, .ofNat 7)]), (3, [(.ofNat 0, .ofNat 7)]), (4, [(.ofNat 0, .ofNat 1)]), (5, [(.ofNat 1, .ofNat 9)]), (6, [(.ofNat 0, .ofNat 8)]), (8, [(.ofNat 0, .ofNat 1)])], [], []),
  (0, [], [.inl (false, (0, .ofNat 0, .ofNat 0))], [(2, 0, (0, .ofNat 0, .ofNat 0), (0, .ofNat 0, .ofNat 0), (0, .ofNat 0, .ofNat 0)), (2, 4, (15, .ofNat 1, .ofNat 0), (14, .ofNat 1, .ofNat 0), (0, .ofNat 0, .ofNat 0)), (0, 128, (1, .ofNat 1, .ofNat 0), (14, .ofNat 1, .ofNat 0), (0, .ofNat 0, .ofNat 0)), (0, 127, (1, .ofNat 1, .ofNat 0), (13, .ofNat 1, .ofNat 0), (0, .ofNat 0, .ofNat 0)), (0, 123, (3, .ofNat 1, .ofNat 0), (11, .ofNat 1, .ofNat 0), (0, .ofNat 0, .ofNat 0)), (0, 123, (2, .ofNat 1, .ofNat 0), (10, .ofNat 1, .ofNat 0), (0, .ofNat 0, .ofNat 0)), (2, 1, (0, .ofNat 0, .ofNat 1), (0, .ofNat 0, .ofNat 0), (0, .ofNat 0, .ofNat 0)), (2, 4, (9, .ofNat 1, .ofNat 0), (0, .ofNat 0, .ofNat 0), (0, .ofNat 0, .ofNat 0)), (0, 125, (3, .ofNat 1, .ofNat 0), (6, .ofNat 1, .ofNat 0), (0, .ofNat 0, .ofNat 0)), (2, 0, (7, .ofNat 1, .ofNat 0), (0, .ofNat 0, .ofNat 0), (0, .ofNat 0, .ofNat 0)), (2, 1, (4, .ofNat 1, .ofNat 0), (8, .ofNat 1, .ofNat 0), (0, .ofNat 0, .ofNat 0)), (0, 124, (3, .ofNat 1, .ofNat 0), (8, .ofNat 1, .ofNat 0), (0, .ofNat 0, .ofNat 0)), (0, 125, (3, .ofNat 1, .ofNat 0), (6, .ofNat 1, .ofNat 0), (0, .ofNat 0, .ofNat 0)), (2, 4, (5, .ofNat 1, .ofNat 0), (6, .ofNat 1, .ofNat 0), (0, .ofNat 0, .ofNat 0)), (0, 125, (3, .ofNat 1, .ofNat 0), (6, .ofNat 1, .ofNat 0), (0, .ofNat 0, .ofNat 0)), (0, 125, (2, .ofNat 1, .ofNat 0), (5, .ofNat 1, .ofNat 0), (0, .ofNat 0, .ofNat 0)), (0, 124, (2, .ofNat 1, .ofNat 0), (4, .ofNat 1, .ofNat 0), (0, .ofNat 0, .ofNat 0))], [(1, [(.ofNat 0, .ofNat 15)]), (2, [(.ofNat 0, .ofNat 7)]), (3, [(.ofNat 0, .ofNat 7)]), (4, [(.ofNat 0, .ofNat 1)]), (5, [(.ofNat 1, .ofNat 9)]), (6, [(.ofNat 0, .ofNat 8)]), (7, [(.ofNat 0, .ofNat 0)]), (8, [(.ofNat 0, .ofNat 1)]), (9, [(.ofNat 1, .ofNat 17)]), (10, [(.ofNat 0, .ofNat 1000000)]), (11, [(.ofNat 0, .ofNat 1000000)]), (12, [(.negSucc 999999, .ofNat 1000000)]), (13, [(.ofNat 0, .ofNat 1000000)]), (14, [(.ofNat 0, .ofNat 1000)]), (15, [(.ofNat 1, .ofNat 1000000)])], [((12, .ofNat 1, .ofNat 0), (13, .negSucc 0, .ofNat 0), (15, .ofNat 1, .ofNat 0)), ((10, .ofNat 1, .ofNat 0), (11, .negSucc 0, .ofNat 0), (12, .ofNat 1, .ofNat 0)), ((5, .ofNat 1, .ofNat 0), (6, .ofNat 1, .ofNat 0), (9, .ofNat 1, .ofNat 0)), ((5, .ofNat 1, .ofNat 0), (6, .negSucc 0, .ofNat 0), (7, .ofNat 1, .ofNat 0))], []),
  (0, [], [.inl (false, (0, .ofNat 0, .ofNat 0))], [(2, 0, (0, .ofNat 0, .ofNat 0), (0, .ofNat 0, .ofNat 0), (0, .ofNat 0, .ofNat 0)), (2, 4, (16, .ofNat 1, .ofNat 0), (14, .ofNat 1, .ofNat 0), (0, .ofNat 0, .ofNat 0)), (2, 5, (15, .ofNat 1, .ofNat 0), (14, .ofNat 1, .ofNat 0), (0, .ofNat 0, .ofNat 0)), (0, 128, (1, .ofNat 1, .ofNat 0), (14, .ofNat 1, .ofNat 0), (0, .ofNat 0, .ofNat 0)), (0, 127, (1, .ofNat 1, .ofNat 0), (13, .ofNat 1, .ofNat 0), (0, .ofNat 0, .ofNat 0)), (0, 123, (3, .ofNat 1, .ofNat 0), (11, .ofNat 1, .ofNat 0), (0, .ofNat 0, .ofNat 0)), (0, 123, (2, .ofNat 1, .ofNat 0), (10, .ofNat 1, .ofNat 0), (0, .ofNat 0, .ofNat 0)), (2, 1, (0, .ofNat 0, .ofNat 1), (0, .ofNat 0, .ofNat 0), (0, .ofNat 0, .ofNat 0)), (2, 4, (9, .ofNat 1, .ofNat 0), (0, .ofNat 0, .ofNat 0), (0, .ofNat 0, .ofNat 0)), (0, 125, (3, .ofNat 1, .ofNat 0), (6, .ofNat 1, .ofNat 0), (0, .ofNat 0, .ofNat 0)), (2, 0, (7, .ofNat 1, .ofNat 0), (0, .ofNat 0, .ofNat 0), (0, .ofNat 0, .ofNat 0)), (2, 1, (4, .ofNat 1, .ofNat 0), (8, .ofNat 1, .ofNat 0), (0, .ofNat 0, .ofNat 0)), (0, 124, (3, .ofNat 1, .ofNat 0), (8, .ofNat 1, .ofNat 0), (0, .ofNat 0, .ofNat 0)), (0, 125, (3, .ofNat 1, .ofNat 0), (6, .ofNat 1, .ofNat 0), (0, .ofNat 0, .ofNat 0)), (2, 4, (5, .ofNat 1, .ofNat 0), (6, .ofNat 1, .ofNat 0), (0, .ofNat 0, .ofNat 0)), (0, 125, (3, .ofNat 1, .ofNat 0), (6, .ofNat 1, .ofNat 0), (0, .ofNat 0, .ofNat 0)), (0, 125, (2, .ofNat 1, .ofNat 0), (5, .ofNat 1, .ofNat 0), (0, .ofNat 0, .ofNat 0)), (0, 124, (2, .ofNat 1, .ofNat 0), (4, .ofNat 1, .ofNat 0), (0, .ofNat 0, .ofNat 0))], [(1, [(.ofNat 0, .ofNat 15)]), (2, [(.ofNat 0, .ofNat 7)]), (3, [(.ofNat 0, .ofNat 7)]), (4, [(.ofNat 0, .ofNat 1)]), (5, [(.ofNat 1, .ofNat 9)]), (6, [(.ofNat 0, .ofNat 8)]), (7, [(.ofNat 0, .ofNat 0)]), (8, [(.ofNat 0, .ofNat 1)]), (9, [(.ofNat 1, .ofNat 17)]), (10, [(.ofNat 0, .ofNat 1000000)]), (11, [(.ofNat 0, .ofNat 1000000)]), (12, [(.negSucc 999999, .ofNat 1000000)]), (13, [(.ofNat 0, .ofNat 1000000)]), (14, [(.ofNat 0, .ofNat 1000)]), (15, [(.negSucc 1999999, .ofNat 1000)]), (16, [(.ofNat 1, .ofNat 2000000)])], [((13, .ofNat 1, .ofNat 0), (12, .negSucc 0, .ofNat 0), (16, .ofNat 1, .ofNat 0)), ((12, .ofNat 1, .ofNat 0), (13, .negSucc 0, .ofNat 0), (15, .ofNat 1, .ofNat 0)), ((10, .ofNat 1, .ofNat 0), (11, .negSucc 0, .ofNat 0), (12, .ofNat 1, .ofNat 0)), ((5, .ofNat 1, .ofNat 0), (6, .ofNat 1, .ofNat 0), (9, .ofNat 1, .ofNat 0)), ((5, .ofNat 1, .ofNat 0), (6, .negSucc 0, .ofNat 0), (7, .ofNat 1, .ofNat 0))], []),
  (0, [], [.inl (false, (0, .ofNat 0, .ofNat 1))], [(2, 1, (0, .ofNat 0, .ofNat 1), (0, .ofNat 0, .ofNat 0), (0, .ofNat 0, .ofNat 0)), (2, 5, (16, .ofNat 1, .ofNat 0), (14, .ofNat 1, .ofNat 0), (0, .ofNat 0, .ofNat 0)), (2, 5, (15, .ofNat 1, .ofNat 0), (14, .ofNat 1, .ofNat 0), (0, .ofNat 0, .ofNat 0)), (0, 128, (1, .ofNat 1, .ofNat 0), (14, .ofNat 1, .ofNat 0), (0, .ofNat 0, .ofNat 0)), (0, 127, (1, .ofNat 1, .ofNat 0), (13, .ofNat 1, .ofNat 0), (0, .ofNat 0, .ofNat 0)), (0, 123, (3, .ofNat 1, .ofNat 0), (11, .ofNat 1, .ofNat 0), (0, .ofNat 0, .ofNat 0)), (0, 123, (2, .ofNat 1, .ofNat 0), (10, .ofNat 1, .ofNat 0), (0, .ofNat 0, .ofNat 0)), (2, 1, (0, .ofNat 0, .ofNat 1), (0, .ofNat 0, .ofNat 0), (0, .ofNat 0, .ofNat 0)), (2, 4, (9, .ofNat 1, .ofNat 0), (0, .ofNat 0, .ofNat 0), (0, .ofNat 0, .ofNat 0)), (0, 125, (3, .ofNat 1, .ofNat 0), (6, .ofNat 1, .ofNat 0), (0, .ofNat 0, .ofNat 0)), (2, 0, (7, .ofNat 1, .ofNat 0), (0, .ofNat 0, .ofNat 0), (0, .ofNat 0, .ofNat 0)), (2, 1, (4, .ofNat 1, .ofNat 0), (8, .ofNat 1, .ofNat 0), (0, .ofNat 0, .ofNat 0)), (0, 124, (3, .ofNat 1, .ofNat 0), (8, .ofNat 1, .ofNat 0), (0, .ofNat 0, .ofNat 0)), (0, 125, (3, .ofNat 1, .ofNat 0), (6, .ofNat 1, .ofNat 0), (0, .ofNat 0, .ofNat 0)), (2, 4, (5, .ofNat 1, .ofNat 0), (6, .ofNat 1, .ofNat 0), (0, .ofNat 0, .ofNat 0)), (0, 125, (3, .ofNat 1, .ofNat 0), (6, .ofNat 1, .ofNat 0), (0, .ofNat 0, .ofNat 0)), (0, 125, (2, .ofNat 1, .ofNat 0), (5, .ofNat 1, .ofNat 0), (0, .ofNat 0, .ofNat 0)), (0, 124, (2, .ofNat 1, .ofNat 0), (4, .ofNat 1, .ofNat 0), (0, .ofNat 0, .ofNat 0))], [(1, [(.ofNat 0, .ofNat 15)]), (2, [(.ofNat 0, .ofNat 7)]), (3, [(.ofNat 0, .ofNat 7)]), (4, [(.ofNat 0, .ofNat 1)]), (5, [(.ofNat 1, .ofNat 9)]), (6, [(.ofNat 0, .ofNat 8)]), (7, [(.ofNat 0, .ofNat 0)]), (8, [(.ofNat 0, .ofNat 1)]), (9, [(.ofNat 1, .ofNat 17)]), (10, [(.ofNat 0, .ofNat 1000000)]), (11, [(.ofNat 0, .ofNat 1000000)]), (12, [(.negSucc 999999, .ofNat 1000000)]), (13, [(.ofNat 0, .ofNat 1000000)]), (14, [(.ofNat 0, .ofNat 1000)]), (15, [(.negSucc 1999999, .ofNat 1000)]), (16, [(.negSucc 999999, .ofNat 1000)])], [((13, .ofNat 1, .ofNat 0), (12, .negSucc 0, .ofNat 0), (16, .ofNat 1, .ofNat 0)), ((12, .ofNat 1, .ofNat 0), (13, .negSucc 0, .ofNat 0), (15, .ofNat 1, .ofNat 0)), ((10, .ofNat 1, .ofNat 0), (11, .negSucc 0, .ofNat 0), (12, .ofNat 1, .ofNat 0)), ((5, .ofNat 1, .ofNat 0), (6, .ofNat 1, .ofNat 0), (9, .ofNat 1, .ofNat 0)), ((5, .ofNat 1, .ofNat 0), (6, .negSucc 0, .ofNat 0), (7, .ofNat 1, .ofNat 0))], []),
  (0, [], [.inl (false, (0, .ofNat 0, .ofNat 0))], [(2, 0, (0, .ofNat 0, .ofNat 0), (0, .ofNat 0, .ofNat 0), (0, .ofNat 0, .ofNat 0)), (2, 1, (7, .ofNat 1, .ofNat 0), (0, .ofNat 0, .ofNat 2), (0, .ofNat 0, .ofNat 0)), (2, 1, (7, .ofNat 1, .ofNat 0), (0, .ofNat 0, .ofNat 0), (0, .ofNat 0, .ofNat 0)), (2, 1, (4, .ofNat 1, .ofNat 0), (8, .ofNat 1, .ofNat 0), (0, .ofNat 0, .ofNat 0)), (0, 124, (3, .ofNat 1, .ofNat 0), (8, .ofNat 1, .ofNat 0), (0, .ofNat 0, .ofNat 0)), (0, 125, (3, .ofNat 1, .ofNat 0), (6, .ofNat 1, .ofNat 0), (0, .ofNat 0, .ofNat 0)), (2, 4, (5, .ofNat 1, .ofNat 0), (6, .ofNat 1, .ofNat 0), (0, .ofNat 0, .ofNat 0)), (0, 125, (3, .ofNat 1, .ofNat 0), (6, .ofNat 1, .ofNat 0), (0, .ofNat 0, .ofNat 0)), (0, 125, (2, .ofNat 1, .ofNat 0), (5, .ofNat 1, .ofNat 0), (0, .ofNat 0, .ofNat 0)), (0, 124, (2, .ofNat 1, .ofNat 0), (4, .ofNat 1, .ofNat 0), (0, .ofNat 0, .ofNat 0))], [(1, [(.ofNat 0, .ofNat 15)]), (2, [(.ofNat 0, .ofNat 7)]), (3, [(.ofNat 0, .ofNat 7)]), (4, [(.ofNat 0, .ofNat 1)]), (5, [(.ofNat 1, .ofNat 9)]), (6, [(.ofNat 0, .ofNat 8)]), (7, [(.negSucc 6, .negSucc 0), (.ofNat 1, .ofNat 1), (.ofNat 3, .ofNat 9)]), (8, [(.ofNat 0, .ofNat 1)])], [((5, .ofNat 1, .ofNat 0), (6, .negSucc 0, .ofNat 0), (7, .ofNat 1, .ofNat 0))], []),
  (0, [], [.inl (false, (0, .ofNat 0, .ofNat 0))], [(2, 0, (0, .ofNat 0, .ofNat 0), (0, .ofNat 0, .ofNat 0), (0, .ofNat 0, .ofNat 0)), (2, 4, (15, .ofNat 1, .ofNat 0), (14, .ofNat 1, .ofNat 0), (0, .ofNat 0, .ofNat 0)), (0, 128, (1, .ofNat 1, .ofNat 0), (14, .ofNat 1, .ofNat 0), (0, .ofNat 0, .ofNat 0)), (0, 127, (1, .ofNat 1, .ofNat 0), (13, .ofNat 1, .ofNat 0), (0, .ofNat 0, .ofNat 0)), (0, 123, (3, .ofNat 1, .ofNat 0), (11, .ofNat 1, .ofNat 0), (0, .ofNat 0, .ofNat 0)), (0, 123, (2, .ofNat 1, .ofNat 0), (10, .ofNat 1, .ofNat 0), (0, .ofNat 0, .ofNat 0)), (2, 1, (0, .ofNat 0, .ofNat 1), (0, .ofNat 0, .ofNat 0), (0, .ofNat 0, .ofNat 0)), (2, 4, (9, .ofNat 1, .ofNat 0), (0, .ofNat 0, .ofNat 0), (0, .ofNat 0, .ofNat 0)), (0, 125, (3, .ofNat 1, .ofNat 0), (6, .ofNat 1, .ofNat 0), (0, .ofNat 0, .ofNat 0)), (2, 0, (7, .ofNat 1, .ofNat 0), (0, .ofNat 0, .ofNat 2), (0, .ofNat 0, .ofNat 0)), (2, 1, (7, .ofNat 1, .ofNat 0), (0, .ofNat 0, .ofNat 0), (0, .ofNat 0, .ofNat 0)), (2, 1, (4, .ofNat 1, .ofNat 0), (8, .ofNat 1, .ofNat 0), (0, .ofNat 0, .ofNat 0)), (0, 124, (3, .ofNat 1, .ofNat 0), (8, .ofNat 1, .ofNat 0), (0, .ofNat 0, .ofNat 0)), (0, 125, (3, .ofNat 1, .ofNat 0), (6, .ofNat 1, .ofNat 0), (0, .ofNat 0, .ofNat 0)), (2, 4, (5, .ofNat 1, .ofNat 0), (6, .ofNat 1, .ofNat 0), (0, .ofNat 0, .ofNat 0)), (0, 125, (3, .ofNat 1, .ofNat 0), (6, .ofNat 1, .ofNat 0), (0, .ofNat 0, .ofNat 0)), (0, 125, (2, .ofNat 1, .ofNat 0), (5, .ofNat 1, .ofNat 0), (0, .ofNat 0, .ofNat 0)), (0, 124, (2, .ofNat 1, .ofNat 0), (4, .ofNat 1, .ofNat 0), (0, .ofNat 0, .ofNat 0))], [(1, [(.ofNat 0, .ofNat 15)]), (2, [(.ofNat 0, .ofNat 7)]), (3, [(.ofNat 0, .ofNat 7)]), (4, [(.ofNat 0, .ofNat 1)]), (5, [(.ofNat 1, .ofNat 9)]), (6, [(.ofNat 0, .ofNat 8)]), (7, [(.ofNat 2, .ofNat 2)]), (8, [(.ofNat 0, .ofNat 1)]), (9, [(.ofNat 1, .ofNat 17)]), (10, [(.ofNat 0, .ofNat 1000000)]), (11, [(.ofNat 0, .ofNat 1000000)]), (12, [(.negSucc 999999, .ofNat 1000000)]), (13, [(.ofNat 0, .ofNat 1000000)]), (14, [(.ofNat 0, .ofNat 1000)]), (15, [(.ofNat 1, .ofNat 1000000)])], [((12, .ofNat 1, .ofNat 0), (13, .negSucc 0, .ofNat 0), (15, .ofNat 1, .ofNat 0)), ((10, .ofNat 1, .ofNat 0), (11, .negSucc 0, .ofNat 0), (12, .ofNat 1, .ofNat 0)), ((5, .ofNat 1, .ofNat 0), (6, .ofNat 1, .ofNat 0), (9, .ofNat 1, .ofNat 0)), ((5, .ofNat 1, .ofNat 0), (6, .negSucc 0, .ofNat 0), (7, .ofNat 1, .ofNat 0))], []),
  (0, [], [.inl (false, (0, .ofNat 0, .ofNat 0))], [(2, 0, (0, .ofNat 0, .ofNat 0), (0, .ofNat 0, .ofNat 0), (0, .ofNat 0, .ofNat 0)), (2, 4, (16, .ofNat 1, .ofNat 0), (14, .ofNat 1, .ofNat 0), (0, .ofNat 0, .ofNat 0)), (2, 5, (15, .ofNat 1, .ofNat 0), (14, .ofNat 1, .ofNat 0), (0, .ofNat 0, .ofNat 0)), (0, 128, (1, .ofNat 1, .ofNat 0), (14, .ofNat 1, .ofNat 0), (0, .ofNat 0, .ofNat 0)), (0, 127, (1, .ofNat 1, .ofNat 0), (13, .ofNat 1, .ofNat 0), (0, .ofNat 0, .ofNat 0)), (0, 123, (3, .ofNat 1, .ofNat 0), (11, .ofNat 1, .ofNat 0), (0, .ofNat 0, .ofNat 0)), (0, 123, (2, .ofNat 1, .ofNat 0), (10, .ofNat 1, .ofNat 0), (0, .ofNat 0, .ofNat 0)), (2, 1, (0, .ofNat 0, .ofNat 1), (0, .ofNat 0, .ofNat 0), (0, .ofNat 0, .ofNat 0)), (2, 4, (9, .ofNat 1, .ofNat 0), (0, .ofNat 0, .ofNat 0), (0, .ofNat 0, .ofNat 0)), (0, 125, (3, .ofNat 1, .ofNat 0), (6, .ofNat 1, .ofNat 0), (0, .ofNat 0, .ofNat 0)), (2, 0, (7, .ofNat 1, .ofNat 0), (0, .ofNat 0, .ofNat 2), (0, .ofNat 0, .ofNat 0)), (2, 1, (7, .ofNat 1, .ofNat 0), (0, .ofNat 0, .ofNat 0), (0, .ofNat 0, .ofNat 0)), (2, 1, (4, .ofNat 1, .ofNat 0), (8, .ofNat 1, .ofNat 0), (0, .ofNat 0, .ofNat 0)), (0, 124, (3, .ofNat 1, .ofNat 0), (8, .ofNat 1, .ofNat 0), (0, .ofNat 0, .ofNat 0)), (0, 125, (3, .ofNat 1, .ofNat 0), (6, .ofNat 1, .ofNat 0), (0, .ofNat 0, .ofNat 0)), (2, 4, (5, .ofNat 1, .ofNat 0), (6, .ofNat 1, .ofNat 0), (0, .ofNat 0, .ofNat 0)), (0, 125, (3, .ofNat 1, .ofNat 0), (6, .ofNat 1, .ofNat 0), (0, .ofNat 0, .ofNat 0)), (0, 125, (2, .ofNat 1, .ofNat 0), (5, .ofNat 1, .ofNat 0), (0, .ofNat 0, .ofNat 0)), (0, 124, (2, .ofNat 1, .ofNat 0), (4, .ofNat 1, .ofNat 0), (0, .ofNat 0, .ofNat 0))], [(1, [(.ofNat 0, .ofNat 15)]), (2, [(.ofNat 0, .ofNat 7)]), (3, [(.ofNat 0, .ofNat 7)]), (4, [(.ofNat 0, .ofNat 1)]), (5, [(.ofNat 1, .ofNat 9)]), (6, [(.ofNat 0, .ofNat 8)]), (7, [(.ofNat 2, .ofNat 2)]), (8, [(.ofNat 0, .ofNat 1)]), (9, [(.ofNat 1, .ofNat 17)]), (10, [(.ofNat 0, .ofNat 1000000)]), (11, [(.ofNat 0, .ofNat 1000000)]), (12, [(.negSucc 999999, .ofNat 1000000)]), (13, [(.ofNat 0, .ofNat 1000000)]), (14, [(.ofNat 0, .ofNat 1000)]), (15, [(.negSucc 1999999, .ofNat 1000)]), (16, [(.ofNat 1, .ofNat 2000000)])], [((13, .ofNat 1, .ofNat 0), (12, .negSucc 0, .ofNat 0), (16, .ofNat 1, .ofNat 0)), ((12, .ofNat 1, .ofNat 0), (13, .negSucc 0, .ofNat 0), (15, .ofNat 1, .ofNat 0)), ((10, .ofNat 1, .ofNat 0), (11, .negSucc 0, .ofNat 0), (12, .ofNat 1, .ofNat 0)), ((5, .ofNat 1, .ofNat 0), (6, .ofNat 1, .ofNat 0), (9, .ofNat 1, .ofNat 0)), ((5, .ofNat 1, .ofNat 0), (6, .negSucc 0, .ofNat 0), (7, .ofNat 1, .ofNat 0))], []),
  (0, [], [.inl (false, (0, .ofNat 0, .ofNat 1))], [(2, 1, (0, .ofNat 0, .ofNat 1), (0, .ofNat 0, .ofNat 0), (0, .ofNat 0, .ofNat 0)), (2, 5, (16, .ofNat 1, .ofNat 0), (14, .ofNat 1, .ofNat 0), (0, .ofNat 0, .ofNat 0)), (2, 5, (15, .ofNat 1, .ofNat 0), (14, .ofNat 1, .ofNat 0), (0, .ofNat 0, .ofNat 0)), (0, 128, (1, .ofNat 1, .ofNat 0), (14, .ofNat 1, .ofNat 0), (0, .ofNat 0, .ofNat 0)), (0, 127, (1, .ofNat 1, .ofNat 0), (13, .ofNat 1, .ofNat 0), (0, .ofNat 0, .ofNat 0)), (0, 123, (3, .ofNat 1, .ofNat 0), (11, .ofNat 1, .ofNat 0), (0, .ofNat 0, .ofNat 0)), (0, 123, (2, .ofNat 1, .ofNat 0), (10, .ofNat 1, .ofNat 0), (0, .ofNat 0, .ofNat 0)), (2, 1, (0, .ofNat 0, .ofNat 1), (0, .ofNat 0, .ofNat 0), (0, .ofNat 0, .ofNat 0)), (2, 4, (9, .ofNat 1, .ofNat 0), (0, .ofNat 0, .ofNat 0), (0, .ofNat 0, .ofNat 0)), (0, 125, (3, .ofNat 1, .ofNat 0), (6, .ofNat 1, .ofNat 0), (0, .ofNat 0, .ofNat 0)), (2, 0, (7, .ofNat 1, .ofNat 0), (0, .ofNat 0, .ofNat 2), (0, .ofNat 0, .ofNat 0)), (2, 1, (7, .ofNat 1, .ofNat 0), (0, .ofNat 0, .ofNat 0), (0, .ofNat 0, .ofNat 0)), (2, 1, (4, .ofNat 1, .ofNat 0), (8, .ofNat 1, .ofNat 0), (0, .ofNat 0, .ofNat 0)), (0, 124, (3, .ofNat 1, .ofNat 0), (8, .ofNat 1, .ofNat 0), (0, .ofNat 0, .ofNat 0)), (0, 125, (3, .ofNat 1, .ofNat 0), (6, .ofNat 1, .ofNat 0), (0, .ofNat 0, .ofNat 0)), (2, 4, (5, .ofNat 1, .ofNat 0), (6, .ofNat 1, .ofNat 0), (0, .ofNat 0, .ofNat 0)), (0, 125, (3, .ofNat 1, .ofNat 0), (6, .ofNat 1, .ofNat 0), (0, .ofNat 0, .ofNat 0)), (0, 125, (2, .ofNat 1, .ofNat 0), (5, .ofNat 1, .ofNat 0), (0, .ofNat 0, .ofNat 0)), (0, 124, (2, .ofNat 1, .ofNat 0), (4, .ofNat 1, .ofNat 0), (0, .ofNat 0, .ofNat 0))], [(1, [(.ofNat 0, .ofNat 15)]), (2, [(.ofNat 0, .ofNat 7)]), (3, [(.ofNat 0, .ofNat 7)]), (4, [(.ofNat 0, .ofNat 1)]), (5, [(.ofNat 1, .ofNat 9)]), (6, [(.ofNat 0, .ofNat 8)]), (7, [(.ofNat 2, .ofNat 2)]), (8, [(.ofNat 0, .ofNat 1)]), (9, [(.ofNat 1, .ofNat 17)]), (10, [(.ofNat 0, .ofNat 1000000)]), (11, [(.ofNat 0, .ofNat 1000000)]), (12, [(.negSucc 999999, .ofNat 1000000)]), (13, [(.ofNat 0, .ofNat 1000000)]), (14, [(.ofNat 0, .ofNat 1000)]), (15, [(.negSucc 1999999, .ofNat 1000)]), (16, [(.negSucc 999999, .ofNat 1000)])], [((13, .ofNat 1, .ofNat 0), (12, .negSucc 0, .ofNat 0), (16, .ofNat 1, .ofNat 0)), ((12, .ofNat 1, .ofNat 0), (13, .negSucc 0, .ofNat 0), (15, .ofNat 1, .ofNat 0)), ((10, .ofNat 1, .ofNat 0), (11, .negSucc 0, .ofNat 0), (12, .ofNat 1, .ofNat 0)), ((5, .ofNat 1, .ofNat 0), (6, .ofNat 1, .ofNat 0), (9, .ofNat 1, .ofNat 0)), ((5, .ofNat 1, .ofNat 0), (6, .negSucc 0, .ofNat 0), (7, .ofNat 1, .ofNat 0))], [])]
set_option maxRecDepth 1000000 in
theorem sg_if_m_g : sg_go [] [] 3000 174 0 2 4 [(0, [(.ofNat 0, .ofNat 0)]), (1, [(.ofNat 0, .ofNat 15)]), (2, [(.ofNat 0, .ofNat 7)]), (3, [(.ofNat 0, .ofNat 7)])] [] [] [] [(0, .inr (.inl [122])), (1, .inl (false, (1, .ofNat 1, .ofNat 0))), (2, .inl (false, (2, .ofNat 1, .ofNat 0))), (3, .inl (false, (3, .ofNat 1, .ofNat 0)))] [] [] sg_if_m_Z = true := by decide +kernel
set_option maxRecDepth 100000 in
theorem sg_if_m {Q : Option Value × am_S → Prop} {d : Nat} {S : am_S} {L : am_L} {x1 x2 x3 : Int} (hd : 2 ≤ d) (hP : ax_P0 none S) (l0 : lc L 0 122) (l1 : li L 1 x1) (l2 : li L 2 x2) (l3 : li L 3 x3) (b1 : (0 ≤ x1 ∧ x1 ≤ 15)) (b2 : (0 ≤ x2 ∧ x2 ≤ 7)) (b3 : (0 ≤ x3 ∧ x3 ≤ 7))
    (k0 : ∀ (x4 x5 x6 x8 : Int) (i1 : Int32), rd S 124 x2 = x4 → rd S 125 x2 = x5 → rd S 125 x3 = x6 → x5 ≤ x6 → rd S 124 x3 = x8 → x4 = x8 → (0 ≤ x1 ∧ x1 ≤ 15) → (0 ≤ x2 ∧ x2 ≤ 7) → (0 ≤ x3 ∧ x3 ≤ 7) → (0 ≤ x4 ∧ x4 ≤ 1) → (0 ≤ x5 ∧ x5 ≤ 9) → (0 ≤ x6 ∧ x6 ≤ 9) → (0 ≤ x8 ∧ x8 ≤ 1) → i1.toInt = 0 → Q (some (.int i1), S))
    (k1 : ∀ (x4 x5 x6 x7 x8 x9 : Int) (i1 : Int32), rd S 124 x2 = x4 → rd S 125 x2 = x5 → rd S 125 x3 = x6 → x5 ≤ x6 → rd S 124 x3 = x8 → x4 ≠ x8 → x7 = 0 → x9 ≤ 0 → (0 ≤ x1 ∧ x1 ≤ 15) → (0 ≤ x2 ∧ x2 ≤ 7) → (0 ≤ x3 ∧ x3 ≤ 7) → (0 ≤ x4 ∧ x4 ≤ 1) → (0 ≤ x5 ∧ x5 ≤ 9) → (0 ≤ x6 ∧ x6 ≤ 9) → (0 ≤ x7 ∧ x7 ≤ 0) → (0 ≤ x8 ∧ x8 ≤ 1) → (0 ≤ x9 ∧ x9 ≤ 0) → x5 + x6 = x9 → x6 + ((-1) * x5 + 0) = x7 → i1.toInt = 0 → Q (some (.int i1), S))
    (k2 : ∀ (x4 x5 x6 x7 x8 x9 x10 x11 x12 x13 x14 x15 : Int) (i1 : Int32), rd S 124 x2 = x4 → rd S 125 x2 = x5 → rd S 125 x3 = x6 → x5 ≤ x6 → rd S 124 x3 = x8 → x4 ≠ x8 → x7 = 0 → 0 < x9 → rd S 123 x2 = x10 → rd S 123 x3 = x11 → rd S 127 x1 = x13 → rd S 128 x1 = x14 → x14 < x15 → (0 ≤ x1 ∧ x1 ≤ 15) → (0 ≤ x2 ∧ x2 ≤ 7) → (0 ≤ x3 ∧ x3 ≤ 7) → (0 ≤ x4 ∧ x4 ≤ 1) → (0 ≤ x5 ∧ x5 ≤ 9) → (0 ≤ x6 ∧ x6 ≤ 9) → (0 ≤ x7 ∧ x7 ≤ 0) → (0 ≤ x8 ∧ x8 ≤ 1) → (1 ≤ x9 ∧ x9 ≤ 18) → (0 ≤ x10 ∧ x10 ≤ 1000000) → (0 ≤ x11 ∧ x11 ≤ 1000000) → ((-1000000) ≤ x12 ∧ x12 ≤ 1000000) → (0 ≤ x13 ∧ x13 ≤ 1000000) → (0 ≤ x14 ∧ x14 ≤ 1000) → (1 ≤ x15 ∧ x15 ≤ 1000000) → x12 + ((-1) * x13 + 0) = x15 → x10 + ((-1) * x11 + 0) = x12 → x5 + x6 = x9 → x6 + ((-1) * x5 + 0) = x7 → i1.toInt = 0 → Q (some (.int i1), S))
    (k3 : ∀ (x4 x5 x6 x7 x8 x9 x10 x11 x12 x13 x14 x15 x16 : Int) (i1 : Int32), rd S 124 x2 = x4 → rd S 125 x2 = x5 → rd S 125 x3 = x6 → x5 ≤ x6 → rd S 124 x3 = x8 → x4 ≠ x8 → x7 = 0 → 0 < x9 → rd S 123 x2 = x10 → rd S 123 x3 = x11 → rd S 127 x1 = x13 → rd S 128 x1 = x14 → x15 ≤ x14 → x14 < x16 → (0 ≤ x1 ∧ x1 ≤ 15) → (0 ≤ x2 ∧ x2 ≤ 7) → (0 ≤ x3 ∧ x3 ≤ 7) → (0 ≤ x4 ∧ x4 ≤ 1) → (0 ≤ x5 ∧ x5 ≤ 9) → (0 ≤ x6 ∧ x6 ≤ 9) → (0 ≤ x7 ∧ x7 ≤ 0) → (0 ≤ x8 ∧ x8 ≤ 1) → (1 ≤ x9 ∧ x9 ≤ 18) → (0 ≤ x10 ∧ x10 ≤ 1000000) → (0 ≤ x11 ∧ x11 ≤ 1000000) → ((-1000000) ≤ x12 ∧ x12 ≤ 1000000) → (0 ≤ x13 ∧ x13 ≤ 1000000) → (0 ≤ x14 ∧ x14 ≤ 1000) → ((-2000000) ≤ x15 ∧ x15 ≤ 1000) → (1 ≤ x16 ∧ x16 ≤ 2000000) → x13 + ((-1) * x12 + 0) = x16 → x12 + ((-1) * x13 + 0) = x15 → x10 + ((-1) * x11 + 0) = x12 → x5 + x6 = x9 → x6 + ((-1) * x5 + 0) = x7 → i1.toInt = 0 → Q (some (.int i1), S))
    (k4 : ∀ (x4 x5 x6 x7 x8 x9 x10 x11 x12 x13 x14 x15 x16 : Int) (i1 : Int32), rd S 124 x2 = x4 → rd S 125 x2 = x5 → rd S 125 x3 = x6 → x5 ≤ x6 → rd S 124 x3 = x8 → x4 ≠ x8 → x7 = 0 → 0 < x9 → rd S 123 x2 = x10 → rd S 123 x3 = x11 → rd S 127 x1 = x13 → rd S 128 x1 = x14 → x15 ≤ x14 → x16 ≤ x14 → (0 ≤ x1 ∧ x1 ≤ 15) → (0 ≤ x2 ∧ x2 ≤ 7) → (0 ≤ x3 ∧ x3 ≤ 7) → (0 ≤ x4 ∧ x4 ≤ 1) → (0 ≤ x5 ∧ x5 ≤ 9) → (0 ≤ x6 ∧ x6 ≤ 9) → (0 ≤ x7 ∧ x7 ≤ 0) → (0 ≤ x8 ∧ x8 ≤ 1) → (1 ≤ x9 ∧ x9 ≤ 18) → (0 ≤ x10 ∧ x10 ≤ 1000000) → (0 ≤ x11 ∧ x11 ≤ 1000000) → ((-1000000) ≤ x12 ∧ x12 ≤ 1000000) → (0 ≤ x13 ∧ x13 ≤ 1000000) → (0 ≤ x14 ∧ x14 ≤ 1000) → ((-2000000) ≤ x15 ∧ x15 ≤ 1000) → ((-1000000) ≤ x16 ∧ x16 ≤ 1000) → x13 + ((-1) * x12 + 0) = x16 → x12 + ((-1) * x13 + 0) = x15 → x10 + ((-1) * x11 + 0) = x12 → x5 + x6 = x9 → x6 + ((-1) * x5 + 0) = x7 → i1.toInt = 1 → Q (some (.int i1), S))
    (k5 : ∀ (x4 x5 x6 x7 x8 : Int) (i1 : Int32), rd S 124 x2 = x4 → rd S 125 x2 = x5 → rd S 125 x3 = x6 → x5 ≤ x6 → rd S 124 x3 = x8 → x4 ≠ x8 → x7 ≠ 0 → x7 ≠ 2 → (0 ≤ x1 ∧ x1 ≤ 15) → (0 ≤ x2 ∧ x2 ≤ 7) → (0 ≤ x3 ∧ x3 ≤ 7) → (0 ≤ x4 ∧ x4 ≤ 1) → (0 ≤ x5 ∧ x5 ≤ 9) → (0 ≤ x6 ∧ x6 ≤ 9) → ((-9) ≤ x7 ∧ x7 ≤ (-1)) ∨ (1 ≤ x7 ∧ x7 ≤ 1) ∨ (3 ≤ x7 ∧ x7 ≤ 9) → (0 ≤ x8 ∧ x8 ≤ 1) → x6 + ((-1) * x5 + 0) = x7 → i1.toInt = 0 → Q (some (.int i1), S))
    (k6 : ∀ (x4 x5 x6 x7 x8 x9 : Int) (i1 : Int32), rd S 124 x2 = x4 → rd S 125 x2 = x5 → rd S 125 x3 = x6 → x5 ≤ x6 → rd S 124 x3 = x8 → x4 ≠ x8 → x7 ≠ 0 → x7 = 2 → x9 ≤ 0 → (0 ≤ x1 ∧ x1 ≤ 15) → (0 ≤ x2 ∧ x2 ≤ 7) → (0 ≤ x3 ∧ x3 ≤ 7) → (0 ≤ x4 ∧ x4 ≤ 1) → (0 ≤ x5 ∧ x5 ≤ 9) → (0 ≤ x6 ∧ x6 ≤ 9) → (2 ≤ x7 ∧ x7 ≤ 2) → (0 ≤ x8 ∧ x8 ≤ 1) → (0 ≤ x9 ∧ x9 ≤ 0) → x5 + x6 = x9 → x6 + ((-1) * x5 + 0) = x7 → i1.toInt = 0 → Q (some (.int i1), S))
    (k7 : ∀ (x4 x5 x6 x7 x8 x9 x10 x11 x12 x13 x14 x15 : Int) (i1 : Int32), rd S 124 x2 = x4 → rd S 125 x2 = x5 → rd S 125 x3 = x6 → x5 ≤ x6 → rd S 124 x3 = x8 → x4 ≠ x8 → x7 ≠ 0 → x7 = 2 → 0 < x9 → rd S 123 x2 = x10 → rd S 123 x3 = x11 → rd S 127 x1 = x13 → rd S 128 x1 = x14 → x14 < x15 → (0 ≤ x1 ∧ x1 ≤ 15) → (0 ≤ x2 ∧ x2 ≤ 7) → (0 ≤ x3 ∧ x3 ≤ 7) → (0 ≤ x4 ∧ x4 ≤ 1) → (0 ≤ x5 ∧ x5 ≤ 9) → (0 ≤ x6 ∧ x6 ≤ 9) → (2 ≤ x7 ∧ x7 ≤ 2) → (0 ≤ x8 ∧ x8 ≤ 1) → (1 ≤ x9 ∧ x9 ≤ 18) → (0 ≤ x10 ∧ x10 ≤ 1000000) → (0 ≤ x11 ∧ x11 ≤ 1000000) → ((-1000000) ≤ x12 ∧ x12 ≤ 1000000) → (0 ≤ x13 ∧ x13 ≤ 1000000) → (0 ≤ x14 ∧ x14 ≤ 1000) → (1 ≤ x15 ∧ x15 ≤ 1000000) → x12 + ((-1) * x13 + 0) = x15 → x10 + ((-1) * x11 + 0) = x12 → x5 + x6 = x9 → x6 + ((-1) * x5 + 0) = x7 → i1.toInt = 0 → Q (some (.int i1), S))
    (k8 : ∀ (x4 x5 x6 x7 x8 x9 x10 x11 x12 x13 x14 x15 x16 : Int) (i1 : Int32), rd S 124 x2 = x4 → rd S 125 x2 = x5 → rd S 125 x3 = x6 → x5 ≤ x6 → rd S 124 x3 = x8 → x4 ≠ x8 → x7 ≠ 0 → x7 = 2 → 0 < x9 → rd S 123 x2 = x10 → rd S 123 x3 = x11 → rd S 127 x1 = x13 → rd S 128 x1 = x14 → x15 ≤ x14 → x14 < x16 → (0 ≤ x1 ∧ x1 ≤ 15) → (0 ≤ x2 ∧ x2 ≤ 7) → (0 ≤ x3 ∧ x3 ≤ 7) → (0 ≤ x4 ∧ x4 ≤ 1) → (0 ≤ x5 ∧ x5 ≤ 9) → (0 ≤ x6 ∧ x6 ≤ 9) → (2 ≤ x7 ∧ x7 ≤ 2) → (0 ≤ x8 ∧ x8 ≤ 1) → (1 ≤ x9 ∧ x9 ≤ 18) → (0 ≤ x10 ∧ x10 ≤ 1000000) → (0 ≤ x11 ∧ x11 ≤ 1000000) → ((-1000000) ≤ x12 ∧ x12 ≤ 1000000) → (0 ≤ x13 ∧ x13 ≤ 1000000) → (0 ≤ x14 ∧ x14 ≤ 1000) → ((-2000000) ≤ x15 ∧ x15 ≤ 1000) → (1 ≤ x16 ∧ x16 ≤ 2000000) → x13 + ((-1) * x12 + 0) = x16 → x12 + ((-1) * x13 + 0) = x15 → x10 + ((-1) * x11 + 0) = x12 → x5 + x6 = x9 → x6 + ((-1) * x5 + 0) = x7 → i1.toInt = 0 → Q (some (.int i1), S))
    (k9 : ∀ (x4 x5 x6 x7 x8 x9 x10 x11 x12 x13 x14 x15 x16 : Int) (i1 : Int32), rd S 124 x2 = x4 → rd S 125 x2 = x5 → rd S 125 x3 = x6 → x5 ≤ x6 → rd S 124 x3 = x8 → x4 ≠ x8 → x7 ≠ 0 → x7 = 2 → 0 < x9 → rd S 123 x2 = x10 → rd S 123 x3 = x11 → rd S 127 x1 = x13 → rd S 128 x1 = x14 → x15 ≤ x14 → x16 ≤ x14 → (0 ≤ x1 ∧ x1 ≤ 15) → (0 ≤ x2 ∧ x2 ≤ 7) → (0 ≤ x3 ∧ x3 ≤ 7) → (0 ≤ x4 ∧ x4 ≤ 1) → (0 ≤ x5 ∧ x5 ≤ 9) → (0 ≤ x6 ∧ x6 ≤ 9) → (2 ≤ x7 ∧ x7 ≤ 2) → (0 ≤ x8 ∧ x8 ≤ 1) → (1 ≤ x9 ∧ x9 ≤ 18) → (0 ≤ x10 ∧ x10 ≤ 1000000) → (0 ≤ x11 ∧ x11 ≤ 1000000) → ((-1000000) ≤ x12 ∧ x12 ≤ 1000000) → (0 ≤ x13 ∧ x13 ≤ 1000000) → (0 ≤ x14 ∧ x14 ≤ 1000) → ((-2000000) ≤ x15 ∧ x15 ≤ 1000) → ((-1000000) ≤ x16 ∧ x16 ≤ 1000) → x13 + ((-1) * x12 + 0) = x16 → x12 + ((-1) * x13 + 0) = x15 → x10 + ((-1) * x11 + 0) = x12 → x5 + x6 = x9 → x6 + ((-1) * x5 + 0) = x7 → i1.toInt = 1 → Q (some (.int i1), S))
    (k10 : ∀ (x4 x5 x6 x8 : Int) (i1 : Int32), rd S 124 x2 = x4 → rd S 125 x2 = x5 → rd S 125 x3 = x6 → x6 < x5 → rd S 124 x3 = x8 → x4 = x8 → (0 ≤ x1 ∧ x1 ≤ 15) → (0 ≤ x2 ∧ x2 ≤ 7) → (0 ≤ x3 ∧ x3 ≤ 7) → (0 ≤ x4 ∧ x4 ≤ 1) → (1 ≤ x5 ∧ x5 ≤ 9) → (0 ≤ x6 ∧ x6 ≤ 8) → (0 ≤ x8 ∧ x8 ≤ 1) → i1.toInt = 0 → Q (some (.int i1), S))
    (k11 : ∀ (x4 x5 x6 x7 x8 x9 x10 x11 x12 x13 x14 x15 : Int) (i1 : Int32), rd S 124 x2 = x4 → rd S 125 x2 = x5 → rd S 125 x3 = x6 → x6 < x5 → rd S 124 x3 = x8 → x4 ≠ x8 → x7 = 0 → 0 < x9 → rd S 123 x2 = x10 → rd S 123 x3 = x11 → rd S 127 x1 = x13 → rd S 128 x1 = x14 → x14 < x15 → (0 ≤ x1 ∧ x1 ≤ 15) → (0 ≤ x2 ∧ x2 ≤ 7) → (0 ≤ x3 ∧ x3 ≤ 7) → (0 ≤ x4 ∧ x4 ≤ 1) → (1 ≤ x5 ∧ x5 ≤ 9) → (0 ≤ x6 ∧ x6 ≤ 8) → (0 ≤ x7 ∧ x7 ≤ 0) → (0 ≤ x8 ∧ x8 ≤ 1) → (1 ≤ x9 ∧ x9 ≤ 17) → (0 ≤ x10 ∧ x10 ≤ 1000000) → (0 ≤ x11 ∧ x11 ≤ 1000000) → ((-1000000) ≤ x12 ∧ x12 ≤ 1000000) → (0 ≤ x13 ∧ x13 ≤ 1000000) → (0 ≤ x14 ∧ x14 ≤ 1000) → (1 ≤ x15 ∧ x15 ≤ 1000000) → x12 + ((-1) * x13 + 0) = x15 → x10 + ((-1) * x11 + 0) = x12 → x5 + x6 = x9 → x5 + ((-1) * x6 + 0) = x7 → i1.toInt = 0 → Q (some (.int i1), S))
    (k12 : ∀ (x4 x5 x6 x7 x8 x9 x10 x11 x12 x13 x14 x15 x16 : Int) (i1 : Int32), rd S 124 x2 = x4 → rd S 125 x2 = x5 → rd S 125 x3 = x6 → x6 < x5 → rd S 124 x3 = x8 → x4 ≠ x8 → x7 = 0 → 0 < x9 → rd S 123 x2 = x10 → rd S 123 x3 = x11 → rd S 127 x1 = x13 → rd S 128 x1 = x14 → x15 ≤ x14 → x14 < x16 → (0 ≤ x1 ∧ x1 ≤ 15) → (0 ≤ x2 ∧ x2 ≤ 7) → (0 ≤ x3 ∧ x3 ≤ 7) → (0 ≤ x4 ∧ x4 ≤ 1) → (1 ≤ x5 ∧ x5 ≤ 9) → (0 ≤ x6 ∧ x6 ≤ 8) → (0 ≤ x7 ∧ x7 ≤ 0) → (0 ≤ x8 ∧ x8 ≤ 1) → (1 ≤ x9 ∧ x9 ≤ 17) → (0 ≤ x10 ∧ x10 ≤ 1000000) → (0 ≤ x11 ∧ x11 ≤ 1000000) → ((-1000000) ≤ x12 ∧ x12 ≤ 1000000) → (0 ≤ x13 ∧ x13 ≤ 1000000) → (0 ≤ x14 ∧ x14 ≤ 1000) → ((-2000000) ≤ x15 ∧ x15 ≤ 1000) → (1 ≤ x16 ∧ x16 ≤ 2000000) → x13 + ((-1) * x12 + 0) = x16 → x12 + ((-1) * x13 + 0) = x15 → x10 + ((-1) * x11 + 0) = x12 → x5 + x6 = x9 → x5 + ((-1) * x6 + 0) = x7 → i1.toInt = 0 → Q (some (.int i1), S))
    (k13 : ∀ (x4 x5 x6 x7 x8 x9 x10 x11 x12 x13 x14 x15 x16 : Int) (i1 : Int32), rd S 124 x2 = x4 → rd S 125 x2 = x5 → rd S 125 x3 = x6 → x6 < x5 → rd S 124 x3 = x8 → x4 ≠ x8 → x7 = 0 → 0 < x9 → rd S 123 x2 = x10 → rd S 123 x3 = x11 → rd S 127 x1 = x13 → rd S 128 x1 = x14 → x15 ≤ x14 → x16 ≤ x14 → (0 ≤ x1 ∧ x1 ≤ 15) → (0 ≤ x2 ∧ x2 ≤ 7) → (0 ≤ x3 ∧ x3 ≤ 7) → (0 ≤ x4 ∧ x4 ≤ 1) → (1 ≤ x5 ∧ x5 ≤ 9) → (0 ≤ x6 ∧ x6 ≤ 8) → (0 ≤ x7 ∧ x7 ≤ 0) → (0 ≤ x8 ∧ x8 ≤ 1) → (1 ≤ x9 ∧ x9 ≤ 17) → (0 ≤ x10 ∧ x10 ≤ 1000000) → (0 ≤ x11 ∧ x11 ≤ 1000000) → ((-1000000) ≤ x12 ∧ x12 ≤ 1000000) → (0 ≤ x13 ∧ x13 ≤ 1000000) → (0 ≤ x14 ∧ x14 ≤ 1000) → ((-2000000) ≤ x15 ∧ x15 ≤ 1000) → ((-1000000) ≤ x16 ∧ x16 ≤ 1000) → x13 + ((-1) * x12 + 0) = x16 → x12 + ((-1) * x13 + 0) = x15 → x10 + ((-1) * x11 + 0) = x12 → x5 + x6 = x9 → x5 + ((-1) * x6 + 0) = x7 → i1.toInt = 1 → Q (some (.int i1), S))
    (k14 : ∀ (x4 x5 x6 x7 x8 : Int) (i1 : Int32), rd S 124 x2 = x4 → rd S 125 x2 = x5 → rd S 125 x3 = x6 → x6 < x5 → rd S 124 x3 = x8 → x4 ≠ x8 → x7 ≠ 0 → x7 ≠ 2 → (0 ≤ x1 ∧ x1 ≤ 15) → (0 ≤ x2 ∧ x2 ≤ 7) → (0 ≤ x3 ∧ x3 ≤ 7) → (0 ≤ x4 ∧ x4 ≤ 1) → (1 ≤ x5 ∧ x5 ≤ 9) → (0 ≤ x6 ∧ x6 ≤ 8) → ((-7) ≤ x7 ∧ x7 ≤ (-1)) ∨ (1 ≤ x7 ∧ x7 ≤ 1) ∨ (3 ≤ x7 ∧ x7 ≤ 9) → (0 ≤ x8 ∧ x8 ≤ 1) → x5 + ((-1) * x6 + 0) = x7 → i1.toInt = 0 → Q (some (.int i1), S))
    (k15 : ∀ (x4 x5 x6 x7 x8 x9 x10 x11 x12 x13 x14 x15 : Int) (i1 : Int32), rd S 124 x2 = x4 → rd S 125 x2 = x5 → rd S 125 x3 = x6 → x6 < x5 → rd S 124 x3 = x8 → x4 ≠ x8 → x7 ≠ 0 → x7 = 2 → 0 < x9 → rd S 123 x2 = x10 → rd S 123 x3 = x11 → rd S 127 x1 = x13 → rd S 128 x1 = x14 → x14 < x15 → (0 ≤ x1 ∧ x1 ≤ 15) → (0 ≤ x2 ∧ x2 ≤ 7) → (0 ≤ x3 ∧ x3 ≤ 7) → (0 ≤ x4 ∧ x4 ≤ 1) → (1 ≤ x5 ∧ x5 ≤ 9) → (0 ≤ x6 ∧ x6 ≤ 8) → (2 ≤ x7 ∧ x7 ≤ 2) → (0 ≤ x8 ∧ x8 ≤ 1) → (1 ≤ x9 ∧ x9 ≤ 17) → (0 ≤ x10 ∧ x10 ≤ 1000000) → (0 ≤ x11 ∧ x11 ≤ 1000000) → ((-1000000) ≤ x12 ∧ x12 ≤ 1000000) → (0 ≤ x13 ∧ x13 ≤ 1000000) → (0 ≤ x14 ∧ x14 ≤ 1000) → (1 ≤ x15 ∧ x15 ≤ 1000000) → x12 + ((-1) * x13 + 0) = x15 → x10 + ((-1) * x11 + 0) = x12 → x5 + x6 = x9 → x5 + ((-1) * x6 + 0) = x7 → i1.toInt = 0 → Q (some (.int i1), S))
    (k16 : ∀ (x4 x5 x6 x7 x8 x9 x10 x11 x12 x13 x14 x15 x16 : Int) (i1 : Int32), rd S 124 x2 = x4 → rd S 125 x2 = x5 → rd S 125 x3 = x6 → x6 < x5 → rd S 124 x3 = x8 → x4 ≠ x8 → x7 ≠ 0 → x7 = 2 → 0 < x9 → rd S 123 x2 = x10 → rd S 123 x3 = x11 → rd S 127 x1 = x13 → rd S 128 x1 = x14 → x15 ≤ x14 → x14 < x16 → (0 ≤ x1 ∧ x1 ≤ 15) → (0 ≤ x2 ∧ x2 ≤ 7) → (0 ≤ x3 ∧ x3 ≤ 7) → (0 ≤ x4 ∧ x4 ≤ 1) → (1 ≤ x5 ∧ x5 ≤ 9) → (0 ≤ x6 ∧ x6 ≤ 8) → (2 ≤ x7 ∧ x7 ≤ 2) → (0 ≤ x8 ∧ x8 ≤ 1) → (1 ≤ x9 ∧ x9 ≤ 17) → (0 ≤ x10 ∧ x10 ≤ 1000000) → (0 ≤ x11 ∧ x11 ≤ 1000000) → ((-1000000) ≤ x12 ∧ x12 ≤ 1000000) → (0 ≤ x13 ∧ x13 ≤ 1000000) → (0 ≤ x14 ∧ x14 ≤ 1000) → ((-2000000) ≤ x15 ∧ x15 ≤ 1000) → (1 ≤ x16 ∧ x16 ≤ 2000000) → x13 + ((-1) * x12 + 0) = x16 → x12 + ((-1) * x13 + 0) = x15 → x10 + ((-1) * x11 + 0) = x12 → x5 + x6 = x9 → x5 + ((-1) * x6 + 0) = x7 → i1.toInt = 0 → Q (some (.int i1), S))
    (k17 : ∀ (x4 x5 x6 x7 x8 x9 x10 x11 x12 x13 x14 x15 x16 : Int) (i1 : Int32), rd S 124 x2 = x4 → rd S 125 x2 = x5 → rd S 125 x3 = x6 → x6 < x5 → rd S 124 x3 = x8 → x4 ≠ x8 → x7 ≠ 0 → x7 = 2 → 0 < x9 → rd S 123 x2 = x10 → rd S 123 x3 = x11 → rd S 127 x1 = x13 → rd S 128 x1 = x14 → x15 ≤ x14 → x16 ≤ x14 → (0 ≤ x1 ∧ x1 ≤ 15) → (0 ≤ x2 ∧ x2 ≤ 7) → (0 ≤ x3 ∧ x3 ≤ 7) → (0 ≤ x4 ∧ x4 ≤ 1) → (1 ≤ x5 ∧ x5 ≤ 9) → (0 ≤ x6 ∧ x6 ≤ 8) → (2 ≤ x7 ∧ x7 ≤ 2) → (0 ≤ x8 ∧ x8 ≤ 1) → (1 ≤ x9 ∧ x9 ≤ 17) → (0 ≤ x10 ∧ x10 ≤ 1000000) → (0 ≤ x11 ∧ x11 ≤ 1000000) → ((-1000000) ≤ x12 ∧ x12 ≤ 1000000) → (0 ≤ x13 ∧ x13 ≤ 1000000) → (0 ≤ x14 ∧ x14 ≤ 1000) → ((-2000000) ≤ x15 ∧ x15 ≤ 1000) → ((-1000000) ≤ x16 ∧ x16 ≤ 1000) → x13 + ((-1) * x12 + 0) = x16 → x12 + ((-1) * x13 + 0) = x15 → x10 + ((-1) * x11 + 0) = x12 → x5 + x6 = x9 → x5 + ((-1) * x6 + 0) = x7 → i1.toInt = 1 → Q (some (.int i1), S)) : am_V none d 174 0 L ([]) S Q := by
  refine sg_use sg_if_m_g hd hP (sg_xs [0, x1, x2, x3]) ⟨⟨Int.le_refl 0, Int.le_refl 0⟩, b1, b2, b3, trivial⟩ trivial trivial trivial ⟨l0, l1, l2, l3, trivial⟩ trivial ?_
  intro z hz x' L' st' S' hx hP' hW hL' hs' hJ hE' hT' hD'
  have q1 : x' 1 = x1 := hx 1 (by decide)
  subst q1
  have q2 : x' 2 = x2 := hx 2 (by decide)
  subst q2
  have q3 : x' 3 = x3 := hx 3 (by decide)
  subst q3
  have eS : S' = S := hW.1 rfl
  subst eS
  simp only [sg_if_m_Z, List.mem_cons, List.not_mem_nil, or_false] at hz
  rcases hz with rfl | rfl | rfl | rfl | rfl | rfl | rfl | rfl | rfl | rfl | rfl | rfl | rfl | rfl | rfl | rfl | rfl | rfl
  · obtain ⟨f0, f1, f2, f3, -, f5, f6, -, hσ⟩ := hJ
    obtain ⟨e0, e1, e2, e3, e4, e5, e6, -⟩ := hE'
    intro v hv
    subst hv
    cases v with
    | none => exact hs'.elim
    | some v1 =>
      obtain ⟨⟨i1, rfl, g1⟩, -⟩ := hs'
      exact k0 (x' 4) (x' 5) (x' 6) (x' 8) i1 f0 f1 f2 f3 f5 f6 e0 e1 e2 e3 e4 e5 e6 g1
  · obtain ⟨f0, f1, f2, f3, -, f5, f6, f7, -, f9, -, hσ⟩ := hJ
    obtain ⟨e0, e1, e2, e3, e4, e5, e6, e7, e8, -⟩ := hE'
    obtain ⟨t0, t1, -⟩ := hT'
    intro v hv
    subst hv
    cases v with
    | none => exact hs'.elim
    | some v1 =>
      obtain ⟨⟨i1, rfl, g1⟩, -⟩ := hs'
      exact k1 (x' 4) (x' 5) (x' 6) (x' 7) (x' 8) (x' 9) i1 f0 f1 f2 f3 f5 f6 f7 f9 e0 e1 e2 e3 e4 e5 e6 e7 e8 t0 t1 g1
  · obtain ⟨f0, f1, f2, f3, -, f5, f6, f7, -, f9, -, f11, f12, f13, f14, f15, -, hσ⟩ := hJ
    obtain ⟨e0, e1, e2, e3, e4, e5, e6, e7, e8, e9, e10, e11, e12, e13, e14, -⟩ := hE'
    obtain ⟨t0, t1, t2, t3, -⟩ := hT'
    intro v hv
    subst hv
    cases v with
    | none => exact hs'.elim
    | some v1 =>
      obtain ⟨⟨i1, rfl, g1⟩, -⟩ := hs'
      exact k2 (x' 4) (x' 5) (x' 6) (x' 7) (x' 8) (x' 9) (x' 10) (x' 11) (x' 12) (x' 13) (x' 14) (x' 15) i1 f0 f1 f2 f3 f5 f6 f7 f9 f11 f12 f13 f14 f15 e0 e1 e2 e3 e4 e5 e6 e7 e8 e9 e10 e11 e12 e13 e14 t0 t1 t2 t3 g1
  · obtain ⟨f0, f1, f2, f3, -, f5, f6, f7, -, f9, -, f11, f12, f13, f14, f15, f16, -, hσ⟩ := hJ
    obtain ⟨e0, e1, e2, e3, e4, e5, e6, e7, e8, e9, e10, e11, e12, e13, e14, e15, -⟩ := hE'
    obtain ⟨t0, t1, t2, t3, t4, -⟩ := hT'
    intro v hv
    subst hv
    cases v with
    | none => exact hs'.elim
    | some v1 =>
      obtain ⟨⟨i1, rfl, g1⟩, -⟩ := hs'
      exact k3 (x' 4) (x' 5) (x' 6) (x' 7) (x' 8) (x' 9) (x' 10) (x' 11) (x' 12) (x' 13) (x' 14) (x' 15) (x' 16) i1 f0 f1 f2 f3 f5 f6 f7 f9 f11 f12 f13 f14 f15 f16 e0 e1 e2 e3 e4 e5 e6 e7 e8 e9 e10 e11 e12 e13 e14 e15 t0 t1 t2 t3 t4 g1
  · obtain ⟨f0, f1, f2, f3, -, f5, f6, f7, -, f9, -, f11, f12, f13, f14, f15, f16, -, hσ⟩ := hJ
    obtain ⟨e0, e1, e2, e3, e4, e5, e6, e7, e8, e9, e10, e11, e12, e13, e14, e15, -⟩ := hE'
    obtain ⟨t0, t1, t2, t3, t4, -⟩ := hT'
    intro v hv
    subst hv
    cases v with
    | none => exact hs'.elim
    | some v1 =>
      obtain ⟨⟨i1, rfl, g1⟩, -⟩ := hs'
      exact k4 (x' 4) (x' 5) (x' 6) (x' 7) (x' 8) (x' 9) (x' 10) (x' 11) (x' 12) (x' 13) (x' 14) (x' 15) (x' 16) i1 f0 f1 f2 f3 f5 f6 f7 f9 f11 f12 f13 f14 f15 f16 e0 e1 e2 e3 e4 e5 e6 e7 e8 e9 e10 e11 e12 e13 e14 e15 t0 t1 t2 t3 t4 g1
  · obtain ⟨f0, f1, f2, f3, -, f5, f6, f7, f8, -, hσ⟩ := hJ
    obtain ⟨e0, e1, e2, e3, e4, e5, e6, e7, -⟩ := hE'
    obtain ⟨t0, -⟩ := hT'
    intro v hv
    subst hv
    cases v with
    | none => exact hs'.elim
    | some v1 =>
      obtain ⟨⟨i1, rfl, g1⟩, -⟩ := hs'
      exact k5 (x' 4) (x' 5) (x' 6) (x' 7) (x' 8) i1 f0 f1 f2 f3 f5 f6 f7 f8 e0 e1 e2 e3 e4 e5 e6 e7 t0 g1
  · obtain ⟨f0, f1, f2, f3, -, f5, f6, f7, f8, -, f10, -, hσ⟩ := hJ
    obtain ⟨e0, e1, e2, e3, e4, e5, e6, e7, e8, -⟩ := hE'
    obtain ⟨t0, t1, -⟩ := hT'
    intro v hv
    subst hv
    cases v with
    | none => exact hs'.elim
    | some v1 =>
      obtain ⟨⟨i1, rfl, g1⟩, -⟩ := hs'
      exact k6 (x' 4) (x' 5) (x' 6) (x' 7) (x' 8) (x' 9) i1 f0 f1 f2 f3 f5 f6 f7 f8 f10 e0 e1 e2 e3 e4 e5 e6 e7 e8 t0 t1 g1
  · obtain ⟨f0, f1, f2, f3, -, f5, f6, f7, f8, -, f10, -, f12, f13, f14, f15, f16, -, hσ⟩ := hJ
    obtain ⟨e0, e1, e2, e3, e4, e5, e6, e7, e8, e9, e10, e11, e12, e13, e14, -⟩ := hE'
    obtain ⟨t0, t1, t2, t3, -⟩ := hT'
    intro v hv
    subst hv
    cases v with
    | none => exact hs'.elim
    | some v1 =>
      obtain ⟨⟨i1, rfl, g1⟩, -⟩ := hs'
      exact k7 (x' 4) (x' 5) (x' 6) (x' 7) (x' 8) (x' 9) (x' 10) (x' 11) (x' 12) (x' 13) (x' 14) (x' 15) i1 f0 f1 f2 f3 f5 f6 f7 f8 f10 f12 f13 f14 f15 f16 e0 e1 e2 e3 e4 e5 e6 e7 e8 e9 e10 e11 e12 e13 e14 t0 t1 t2 t3 g1
  · obtain ⟨f0, f1, f2, f3, -, f5, f6, f7, f8, -, f10, -, f12, f13, f14, f15, f16, f17, -, hσ⟩ := hJ
    obtain ⟨e0, e1, e2, e3, e4, e5, e6, e7, e8, e9, e10, e11, e12, e13, e14, e15, -⟩ := hE'
    obtain ⟨t0, t1, t2, t3, t4, -⟩ := hT'
    intro v hv
    subst hv
    cases v with
    | none => exact hs'.elim
    | some v1 =>
      obtain ⟨⟨i1, rfl, g1⟩, -⟩ := hs'
      exact k8 (x' 4) (x' 5) (x' 6) (x' 7) (x' 8) (x' 9) (x' 10) (x' 11) (x' 12) (x' 13) (x' 14) (x' 15) (x' 16) i1 f0 f1 f2 f3 f5 f6 f7 f8 f10 f12 f13 f14 f15 f16 f17 e0 e1 e2 e3 e4 e5 e6 e7 e8 e9 e10 e11 e12 e13 e14 e15 t0 t1 t2 t3 t4 g1
  · obtain ⟨f0, f1, f2, f3, -, f5, f6, f7, f8, -, f10, -, f12, f13, f14, f15, f16, f17, -, hσ⟩ := hJ
    obtain ⟨e0, e1, e2, e3, e4, e5, e6, e7, e8, e9, e10, e11, e12, e13, e14, e15, -⟩ := hE'
    obtain ⟨t0, t1, t2, t3, t4, -⟩ := hT'
    intro v hv
    subst hv
    cases v with
    | none => exact hs'.elim
    | some v1 =>
      obtain ⟨⟨i1, rfl, g1⟩, -⟩ := hs'
      exact k9 (x' 4) (x' 5) (x' 6) (x' 7) (x' 8) (x' 9) (x' 10) (x' 11) (x' 12) (x' 13) (x' 14) (x' 15) (x' 16) i1 f0 f1 f2 f3 f5 f6 f7 f8 f10 f12 f13 f14 f15 f16 f17 e0 e1 e2 e3 e4 e5 e6 e7 e8 e9 e10 e11 e12 e13 e14 e15 t0 t1 t2 t3 t4 g1
  · obtain ⟨f0, f1, f2, f3, -, f5, f6, -, hσ⟩ := hJ
    obtain ⟨e0, e1, e2, e3, e4, e5, e6, -⟩ := hE'
    intro v hv
    subst hv
    cases v with
    | none => exact hs'.elim
    | some v1 =>
      obtain ⟨⟨i1, rfl, g1⟩, -⟩ := hs'
      exact k10 (x' 4) (x' 5) (x' 6) (x' 8) i1 f0 f1 f2 f3 f5 f6 e0 e1 e2 e3 e4 e5 e6 g1
  · obtain ⟨f0, f1, f2, f3, -, f5, f6, f7, -, f9, -, f11, f12, f13, f14, f15, -, hσ⟩ := hJ
    obtain ⟨e0, e1, e2, e3, e4, e5, e6, e7, e8, e9, e10, e11, e12, e13, e14, -⟩ := hE'
    obtain ⟨t0, t1, t2, t3, -⟩ := hT'
    intro v hv
    subst hv
    cases v with
    | none => exact hs'.elim
    | some v1 =>
      obtain ⟨⟨i1, rfl, g1⟩, -⟩ := hs'
      exact k11 (x' 4) (x' 5) (x' 6) (x' 7) (x' 8) (x' 9) (x' 10) (x' 11) (x' 12) (x' 13) (x' 14) (x' 15) i1 f0 f1 f2 f3 f5 f6 f7 f9 f11 f12 f13 f14 f15 e0 e1 e2 e3 e4 e5 e6 e7 e8 e9 e10 e11 e12 e13 e14 t0 t1 t2 t3 g1
  · obtain ⟨f0, f1, f2, f3, -, f5, f6, f7, -, f9, -, f11, f12, f13, f14, f15, f16, -, hσ⟩ := hJ
    obtain ⟨e0, e1, e2, e3, e4, e5, e6, e7, e8, e9, e10, e11, e12, e13, e14, e15, -⟩ := hE'
    obtain ⟨t0, t1, t2, t3, t4, -⟩ := hT'
    intro v hv
    subst hv
    cases v with
    | none => exact hs'.elim
    | some v1 =>
      obtain ⟨⟨i1, rfl, g1⟩, -⟩ := hs'
      exact k12 (x' 4) (x' 5) (x' 6) (x' 7) (x' 8) (x' 9) (x' 10) (x' 11) (x' 12) (x' 13) (x' 14) (x' 15) (x' 16) i1 f0 f1 f2 f3 f5 f6 f7 f9 f11 f12 f13 f14 f15 f16 e0 e1 e2 e3 e4 e5 e6 e7 e8 e9 e10 e11 e12 e13 e14 e15 t0 t1 t2 t3 t4 g1
  · obtain ⟨f0, f1, f2, f3, -, f5, f6, f7, -, f9, -, f11, f12, f13, f14, f15, f16, -, hσ⟩ := hJ
    obtain ⟨e0, e1, e2, e3, e4, e5, e6, e7, e8, e9, e10, e11, e12, e13, e14, e15, -⟩ := hE'
    obtain ⟨t0, t1, t2, t3, t4, -⟩ := hT'
    intro v hv
    subst hv
    cases v with
    | none => exact hs'.elim
    | some v1 =>
      obtain ⟨⟨i1, rfl, g1⟩, -⟩ := hs'
      exact k13 (x' 4) (x' 5) (x' 6) (x' 7) (x' 8) (x' 9) (x' 10) (x' 11) (x' 12) (x' 13) (x' 14) (x' 15) (x' 16) i1 f0 f1 f2 f3 f5 f6 f7 f9 f11 f12 f13 f14 f15 f16 e0 e1 e2 e3 e4 e5 e6 e7 e8 e9 e10 e11 e12 e13 e14 e15 t0 t1 t2 t3 t4 g1
  · obtain ⟨f0, f1, f2, f3, -, f5, f6, f7, f8, -, hσ⟩ := hJ
    obtain ⟨e0, e1, e2, e3, e4, e5, e6, e7, -⟩ := hE'
    obtain ⟨t0, -⟩ := hT'
    intro v hv
    subst hv
    cases v with
    | none => exact hs'.elim
    | some v1 =>
      obtain ⟨⟨i1, rfl, g1⟩, -⟩ := hs'
      exact k14 (x' 4) (x' 5) (x' 6) (x' 7) (x' 8) i1 f0 f1 f2 f3 f5 f6 f7 f8 e0 e1 e2 e3 e4 e5 e6 e7 t0 g1
  · obtain ⟨f0, f1, f2, f3, -, f5, f6, f7, f8, -, f10, -, f12, f13, f14, f15, f16, -, hσ⟩ := hJ
    obtain ⟨e0, e1, e2, e3, e4, e5, e6, e7, e8, e9, e10, e11, e12, e13, e14, -⟩ := hE'
    obtain ⟨t0, t1, t2, t3, -⟩ := hT'
    intro v hv
    subst hv
    cases v with
    | none => exact hs'.elim
    | some v1 =>
      obtain ⟨⟨i1, rfl, g1⟩, -⟩ := hs'
      exact k15 (x' 4) (x' 5) (x' 6) (x' 7) (x' 8) (x' 9) (x' 10) (x' 11) (x' 12) (x' 13) (x' 14) (x' 15) i1 f0 f1 f2 f3 f5 f6 f7 f8 f10 f12 f13 f14 f15 f16 e0 e1 e2 e3 e4 e5 e6 e7 e8 e9 e10 e11 e12 e13 e14 t0 t1 t2 t3 g1
  · obtain ⟨f0, f1, f2, f3, -, f5, f6, f7, f8, -, f10, -, f12, f13, f14, f15, f16, f17, -, hσ⟩ := hJ
    obtain ⟨e0, e1, e2, e3, e4, e5, e6, e7, e8, e9, e10, e11, e12, e13, e14, e15, -⟩ := hE'
    obtain ⟨t0, t1, t2, t3, t4, -⟩ := hT'
    intro v hv
    subst hv
    cases v with
    | none => exact hs'.elim
    | some v1 =>
      obtain ⟨⟨i1, rfl, g1⟩, -⟩ := hs'
      exact k16 (x' 4) (x' 5) (x' 6) (x' 7) (x' 8) (x' 9) (x' 10) (x' 11) (x' 12) (x' 13) (x' 14) (x' 15) (x' 16) i1 f0 f1 f2 f3 f5 f6 f7 f8 f10 f12 f13 f14 f15 f16 f17 e0 e1 e2 e3 e4 e5 e6 e7 e8 e9 e10 e11 e12 e13 e14 e15 t0 t1 t2 t3 t4 g1
  · obtain ⟨f0, f1, f2, f3, -, f5, f6, f7, f8, -, f10, -, f12, f13, f14, f15, f16, f17, -, hσ⟩ := hJ
    obtain ⟨e0, e1, e2, e3, e4, e5, e6, e7, e8, e9, e10, e11, e12, e13, e14, e15, -⟩ := hE'
    obtain ⟨t0, t1, t2, t3, t4, -⟩ := hT'
    intro v hv
    subst hv
    cases v with
    | none => exact hs'.elim
    | some v1 =>
      obtain ⟨⟨i1, rfl, g1⟩, -⟩ := hs'
      exact k17 (x' 4) (x' 5) (x' 6) (x' 7) (x' 8) (x' 9) (x' 10) (x' 11) (x' 12) (x' 13) (x' 14) (x' 15) (x' 16) i1 f0 f1 f2 f3 f5 f6 f7 f8 f10 f12 f13 f14 f15 f16 f17 e0 e1 e2 e3 e4 e5 e6 e7 e8 e9 e10 e11 e12 e13 e14 e15 t0 t1 t2 t3 t4 g1
def sg_cf_x0_Z : List sg_z := [(5, [(0, .inr (.inl [0])), (1, .inl (false, (1, .ofNat 1, .ofNat 0))), (2, .inl (false, (0, .ofNat 0, .ofNat 0))), (3, .inl (false, (0, .ofNat 0, .ofNat 0)))], [], [], [(1, [(.ofNat 0, .ofNat 15)])], [], [])]
set_option maxRecDepth 1000000 in
theorem sg_cf_x0_g : sg_go [] [4] 3000 150 0 0 2 [(0, [(.ofNat 0, .ofNat 0)]), (1, [(.ofNat 0, .ofNat 15)])] [] [] [] [(0, .inr (.inl [0])), (1, .inl (false, (1, .ofNat 1, .ofNat 0)))] [] [] sg_cf_x0_Z = true := by decide +kernel
set_option maxRecDepth 100000 in
theorem sg_cf_x0 {Q : Option Value × am_S → Prop} {d : Nat} {S : am_S} {L : am_L} {x1 : Int} (hd : 0 ≤ d) (hP : ax_P0 none S) (l0 : lc L 0 0) (l1 : li L 1 x1) (b1 : (0 ≤ x1 ∧ x1 ≤ 15))
    (k0 : ∀ (L' : am_L), (0 ≤ x1 ∧ x1 ≤ 15) → lc L' 0 0 → li L' 1 x1 → li L' 2 0 → li L' 3 0 → am_V none d 150 4 L' ([]) S Q) : am_V none d 150 0 L ([]) S Q := by
  refine sg_use sg_cf_x0_g hd hP (sg_xs [0, x1]) ⟨⟨Int.le_refl 0, Int.le_refl 0⟩, b1, trivial⟩ trivial trivial trivial ⟨l0, l1, trivial⟩ trivial ?_
  intro z hz x' L' st' S' hx hP' hW hL' hs' hJ hE' hT' hD'
  have q1 : x' 1 = x1 := hx 1 (by decide)
  subst q1
  have eS : S' = S := hW.1 rfl
  subst eS
  simp only [sg_cf_x0_Z, List.mem_cons, List.not_mem_nil, or_false] at hz
  rcases hz with rfl
  · have hσ := hJ
    obtain ⟨e0, -⟩ := hE'
    obtain ⟨p0, p1, p2, p3, -⟩ := hL'
    obtain rfl := sg_tn hs'
    exact k0 L' e0 p0 p1 p2 p3
def sg_cf_x1_Z : List sg_z := [(0, [], [.inl (false, (2, .ofNat 1, .ofNat 0))], [(2, 3, (3, .ofNat 1, .ofNat 0), (4, .ofNat 1, .ofNat 0), (0, .ofNat 0, .ofNat 0)), (0, 1, (0, .ofNat 0, .ofNat 0), (4, .ofNat 1, .ofNat 0), (0, .ofNat 0, .ofNat 0))], [(1, [(.ofNat 0, .ofNat 15)]), (2, [(.ofNat 0, .ofNat 64)]), (3, [(.ofNat 0, .ofNat 8)]), (4, [(.ofNat 0, .ofNat 8)])], [], []),
  (19, [(0, .inr (.inl [0])), (1, .inl (false, (1, .ofNat 1, .ofNat 0))), (2, .inl (false, (2, .ofNat 1, .ofNat 0))), (3, .inl (false, (3, .ofNat 1, .ofNat 0))), (4, .inl (false, (0, .ofNat 0, .ofNat 0)))], [], [(2, 2, (3, .ofNat 1, .ofNat 0), (4, .ofNat 1, .ofNat 0), (0, .ofNat 0, .ofNat 0)), (0, 1, (0, .ofNat 0, .ofNat 0), (4, .ofNat 1, .ofNat 0), (0, .ofNat 0, .ofNat 0))], [(1, [(.ofNat 0, .ofNat 15)]), (2, [(.ofNat 0, .ofNat 64)]), (3, [(.ofNat 0, .ofNat 7)]), (4, [(.ofNat 1, .ofNat 8)])], [], [])]
set_option maxRecDepth 1000000 in
theorem sg_cf_x1_g : sg_go [] [18] 3000 150 4 0 4 [(0, [(.ofNat 0, .ofNat 0)]), (1, [(.ofNat 0, .ofNat 15)]), (2, [(.ofNat 0, .ofNat 64)]), (3, [(.ofNat 0, .ofNat 8)])] [] [] [] [(0, .inr (.inl [0])), (1, .inl (false, (1, .ofNat 1, .ofNat 0))), (2, .inl (false, (2, .ofNat 1, .ofNat 0))), (3, .inl (false, (3, .ofNat 1, .ofNat 0)))] [] [] sg_cf_x1_Z = true := by decide +kernel
set_option maxRecDepth 100000 in
theorem sg_cf_x1 {Q : Option Value × am_S → Prop} {d : Nat} {S : am_S} {L : am_L} {x1 x2 x3 : Int} (hd : 0 ≤ d) (hP : ax_P0 none S) (l0 : lc L 0 0) (l1 : li L 1 x1) (l2 : li L 2 x2) (l3 : li L 3 x3) (b1 : (0 ≤ x1 ∧ x1 ≤ 15)) (b2 : (0 ≤ x2 ∧ x2 ≤ 64)) (b3 : (0 ≤ x3 ∧ x3 ≤ 8))
    (k0 : ∀ (x4 : Int) (i1 : Int32), rd S 1 0 = x4 → x4 ≤ x3 → (0 ≤ x1 ∧ x1 ≤ 15) → (0 ≤ x2 ∧ x2 ≤ 64) → (0 ≤ x3 ∧ x3 ≤ 8) → (0 ≤ x4 ∧ x4 ≤ 8) → i1.toInt = x2 → Q (some (.int i1), S))
    (k1 : ∀ (x4 : Int) (L' : am_L), rd S 1 0 = x4 → x3 < x4 → (0 ≤ x1 ∧ x1 ≤ 15) → (0 ≤ x2 ∧ x2 ≤ 64) → (0 ≤ x3 ∧ x3 ≤ 7) → (1 ≤ x4 ∧ x4 ≤ 8) → lc L' 0 0 → li L' 1 x1 → li L' 2 x2 → li L' 3 x3 → li L' 4 0 → am_V none d 150 18 L' ([]) S Q) : am_V none d 150 4 L ([]) S Q := by
  refine sg_use sg_cf_x1_g hd hP (sg_xs [0, x1, x2, x3]) ⟨⟨Int.le_refl 0, Int.le_refl 0⟩, b1, b2, b3, trivial⟩ trivial trivial trivial ⟨l0, l1, l2, l3, trivial⟩ trivial ?_
  intro z hz x' L' st' S' hx hP' hW hL' hs' hJ hE' hT' hD'
  have q1 : x' 1 = x1 := hx 1 (by decide)
  subst q1
  have q2 : x' 2 = x2 := hx 2 (by decide)
  subst q2
  have q3 : x' 3 = x3 := hx 3 (by decide)
  subst q3
  have eS : S' = S := hW.1 rfl
  subst eS
  simp only [sg_cf_x1_Z, List.mem_cons, List.not_mem_nil, or_false] at hz
  rcases hz with rfl | rfl
  · obtain ⟨f0, f1, hσ⟩ := hJ
    obtain ⟨e0, e1, e2, e3, -⟩ := hE'
    intro v hv
    subst hv
    cases v with
    | none => exact hs'.elim
    | some v1 =>
      obtain ⟨⟨i1, rfl, g1⟩, -⟩ := hs'
      exact k0 (x' 4) i1 f0 f1 e0 e1 e2 e3 g1
  · obtain ⟨f0, f1, hσ⟩ := hJ
    obtain ⟨e0, e1, e2, e3, -⟩ := hE'
    obtain ⟨p0, p1, p2, p3, p4, -⟩ := hL'
    obtain rfl := sg_tn hs'
    exact k1 (x' 4) L' f0 f1 e0 e1 e2 e3 p0 p1 p2 p3 p4
def sg_cf_x2_Z : List sg_z := [(5, [(0, .inr (.inl [0])), (1, .inl (false, (1, .ofNat 1, .ofNat 0))), (2, .inl (false, (2, .ofNat 1, .ofNat 0))), (3, .inl (false, (3, .ofNat 1, .ofNat 1))), (4, .inl (false, (4, .ofNat 1, .ofNat 0)))], [], [(2, 3, (4, .ofNat 1, .ofNat 0), (5, .ofNat 1, .ofNat 0), (0, .ofNat 0, .ofNat 0)), (0, 1, (0, .ofNat 0, .ofNat 0), (5, .ofNat 1, .ofNat 0), (0, .ofNat 0, .ofNat 0))], [(1, [(.ofNat 0, .ofNat 15)]), (2, [(.ofNat 0, .ofNat 64)]), (3, [(.ofNat 0, .ofNat 7)]), (4, [(.ofNat 0, .ofNat 8)]), (5, [(.ofNat 0, .ofNat 8)])], [], []),
  (37, [(0, .inr (.inl [0])), (1, .inl (false, (1, .ofNat 1, .ofNat 0))), (2, .inl (false, (2, .ofNat 1, .ofNat 0))), (3, .inl (false, (3, .ofNat 1, .ofNat 0))), (4, .inl (false, (4, .ofNat 1, .ofNat 0)))], [.inl (false, (4, .ofNat 1, .ofNat 0)), .inl (false, (3, .ofNat 1, .ofNat 0)), .inl (false, (1, .ofNat 1, .ofNat 0)), .inr (.inl [0]), .inl (false, (2, .ofNat 1, .ofNat 0))], [(2, 2, (4, .ofNat 1, .ofNat 0), (5, .ofNat 1, .ofNat 0), (0, .ofNat 0, .ofNat 0)), (0, 1, (0, .ofNat 0, .ofNat 0), (5, .ofNat 1, .ofNat 0), (0, .ofNat 0, .ofNat 0))], [(1, [(.ofNat 0, .ofNat 15)]), (2, [(.ofNat 0, .ofNat 64)]), (3, [(.ofNat 0, .ofNat 7)]), (4, [(.ofNat 0, .ofNat 7)]), (5, [(.ofNat 1, .ofNat 8)])], [], [])]
set_option maxRecDepth 1000000 in
theorem sg_cf_x2_g : sg_go [] [36, 4] 3000 150 18 0 5 [(0, [(.ofNat 0, .ofNat 0)]), (1, [(.ofNat 0, .ofNat 15)]), (2, [(.ofNat 0, .ofNat 64)]), (3, [(.ofNat 0, .ofNat 7)]), (4, [(.ofNat 0, .ofNat 8)])] [] [] [] [(0, .inr (.inl [0])), (1, .inl (false, (1, .ofNat 1, .ofNat 0))), (2, .inl (false, (2, .ofNat 1, .ofNat 0))), (3, .inl (false, (3, .ofNat 1, .ofNat 0))), (4, .inl (false, (4, .ofNat 1, .ofNat 0)))] [] [] sg_cf_x2_Z = true := by decide +kernel
set_option maxRecDepth 100000 in
theorem sg_cf_x2 {Q : Option Value × am_S → Prop} {d : Nat} {S : am_S} {L : am_L} {x1 x2 x3 x4 : Int} (hd : 0 ≤ d) (hP : ax_P0 none S) (l0 : lc L 0 0) (l1 : li L 1 x1) (l2 : li L 2 x2) (l3 : li L 3 x3) (l4 : li L 4 x4) (b1 : (0 ≤ x1 ∧ x1 ≤ 15)) (b2 : (0 ≤ x2 ∧ x2 ≤ 64)) (b3 : (0 ≤ x3 ∧ x3 ≤ 7)) (b4 : (0 ≤ x4 ∧ x4 ≤ 8))
    (k0 : ∀ (x5 : Int) (L' : am_L), rd S 1 0 = x5 → x5 ≤ x4 → (0 ≤ x1 ∧ x1 ≤ 15) → (0 ≤ x2 ∧ x2 ≤ 64) → (0 ≤ x3 ∧ x3 ≤ 7) → (0 ≤ x4 ∧ x4 ≤ 8) → (0 ≤ x5 ∧ x5 ≤ 8) → lc L' 0 0 → li L' 1 x1 → li L' 2 x2 → li L' 3 (x3 + 1) → li L' 4 x4 → am_V none d 150 4 L' ([]) S Q)
    (k1 : ∀ (x5 : Int) (L' : am_L) (i1 : Int32) (i2 : Int32) (i3 : Int32) (i5 : Int32), rd S 1 0 = x5 → x4 < x5 → (0 ≤ x1 ∧ x1 ≤ 15) → (0 ≤ x2 ∧ x2 ≤ 64) → (0 ≤ x3 ∧ x3 ≤ 7) → (0 ≤ x4 ∧ x4 ≤ 7) → (1 ≤ x5 ∧ x5 ≤ 8) → lc L' 0 0 → li L' 1 x1 → li L' 2 x2 → li L' 3 x3 → li L' 4 x4 → i1.toInt = x4 → i2.toInt = x3 → i3.toInt = x1 → i5.toInt = x2 → am_V none d 150 36 L' ((.int i1) :: (.int i2) :: (.int i3) :: (.ref 0) :: (.int i5) :: []) S Q) : am_V none d 150 18 L ([]) S Q := by
  refine sg_use sg_cf_x2_g hd hP (sg_xs [0, x1, x2, x3, x4]) ⟨⟨Int.le_refl 0, Int.le_refl 0⟩, b1, b2, b3, b4, trivial⟩ trivial trivial trivial ⟨l0, l1, l2, l3, l4, trivial⟩ trivial ?_
  intro z hz x' L' st' S' hx hP' hW hL' hs' hJ hE' hT' hD'
  have q1 : x' 1 = x1 := hx 1 (by decide)
  subst q1
  have q2 : x' 2 = x2 := hx 2 (by decide)
  subst q2
  have q3 : x' 3 = x3 := hx 3 (by decide)
  subst q3
  have q4 : x' 4 = x4 := hx 4 (by decide)
  subst q4
  have eS : S' = S := hW.1 rfl
  subst eS
  simp only [sg_cf_x2_Z, List.mem_cons, List.not_mem_nil, or_false] at hz
  rcases hz with rfl | rfl
  · obtain ⟨f0, f1, hσ⟩ := hJ
    obtain ⟨e0, e1, e2, e3, e4, -⟩ := hE'
    obtain ⟨p0, p1, p2, p3, p4, -⟩ := hL'
    obtain rfl := sg_tn hs'
    exact k0 (x' 5) L' f0 f1 e0 e1 e2 e3 e4 p0 p1 p2 p3 p4
  · obtain ⟨f0, f1, hσ⟩ := hJ
    obtain ⟨e0, e1, e2, e3, e4, -⟩ := hE'
    obtain ⟨p0, p1, p2, p3, p4, -⟩ := hL'
    obtain ⟨v1, r1, rfl, ⟨i1, rfl, g1⟩, hs1⟩ := sg_tc hs'
    obtain ⟨v2, r2, rfl, ⟨i2, rfl, g2⟩, hs2⟩ := sg_tc hs1
    obtain ⟨v3, r3, rfl, ⟨i3, rfl, g3⟩, hs3⟩ := sg_tc hs2
    obtain ⟨v4, r4, rfl, rfl, hs4⟩ := sg_tc hs3
    obtain ⟨v5, r5, rfl, ⟨i5, rfl, g5⟩, hs5⟩ := sg_tc hs4
    obtain rfl := sg_tn hs5
    exact k1 (x' 5) L' i1 i2 i3 i5 f0 f1 e0 e1 e2 e3 e4 p0 p1 p2 p3 p4 g1 g2 g3 g5
def sg_cf_x3_Z : List sg_z := [(19, [(0, .inr (.inl [0])), (1, .inl (false, (1, .ofNat 1, .ofNat 0))), (2, .inl (false, (5, .ofNat 1, .ofNat 0))), (3, .inl (false, (2, .ofNat 1, .ofNat 0))), (4, .inl (false, (3, .ofNat 1, .ofNat 1)))], [], [(2, 0, (4, .ofNat 1, .ofNat 0), (0, .ofNat 0, .ofNat 0), (0, .ofNat 0, .ofNat 0))], [(1, [(.ofNat 0, .ofNat 15)]), (2, [(.ofNat 0, .ofNat 7)]), (3, [(.ofNat 0, .ofNat 7)]), (4, [(.ofNat 0, .ofNat 0)]), (5, [(.ofNat 0, .ofNat 63)])], [], []),
  (19, [(0, .inr (.inl [0])), (1, .inl (false, (1, .ofNat 1, .ofNat 0))), (2, .inl (false, (5, .ofNat 1, .ofNat 1))), (3, .inl (false, (2, .ofNat 1, .ofNat 0))), (4, .inl (false, (3, .ofNat 1, .ofNat 1)))], [], [(2, 1, (4, .ofNat 1, .ofNat 0), (0, .ofNat 0, .ofNat 0), (0, .ofNat 0, .ofNat 0))], [(1, [(.ofNat 0, .ofNat 15)]), (2, [(.ofNat 0, .ofNat 7)]), (3, [(.ofNat 0, .ofNat 7)]), (4, [(.ofNat 1, .ofNat 1)]), (5, [(.ofNat 0, .ofNat 63)])], [], [])]
set_option maxRecDepth 1000000 in
theorem sg_cf_x3_g : sg_go [] [18] 3000 150 39 0 6 [(0, [(.ofNat 0, .ofNat 0)]), (1, [(.ofNat 0, .ofNat 15)]), (2, [(.ofNat 0, .ofNat 7)]), (3, [(.ofNat 0, .ofNat 7)]), (4, [(.ofNat 0, .ofNat 1)]), (5, [(.ofNat 0, .ofNat 63)])] [] [] [] [(0, .inr (.inl [0])), (1, .inl (false, (1, .ofNat 1, .ofNat 0))), (3, .inl (false, (2, .ofNat 1, .ofNat 0))), (4, .inl (false, (3, .ofNat 1, .ofNat 0)))] [.inl (false, (4, .ofNat 1, .ofNat 0)), .inl (false, (5, .ofNat 1, .ofNat 0))] [] sg_cf_x3_Z = true := by decide +kernel
set_option maxRecDepth 100000 in
theorem sg_cf_x3 {Q : Option Value × am_S → Prop} {d : Nat} {S : am_S} {L : am_L} {x1 x2 x3 x4 x5 : Int} {i1 : Int32} {i2 : Int32} (hd : 0 ≤ d) (hP : ax_P0 none S) (l0 : lc L 0 0) (l1 : li L 1 x1) (l3 : li L 3 x2) (l4 : li L 4 x3) (b1 : (0 ≤ x1 ∧ x1 ≤ 15)) (b2 : (0 ≤ x2 ∧ x2 ≤ 7)) (b3 : (0 ≤ x3 ∧ x3 ≤ 7)) (b4 : (0 ≤ x4 ∧ x4 ≤ 1)) (b5 : (0 ≤ x5 ∧ x5 ≤ 63)) (s1 : i1.toInt = x4) (s2 : i2.toInt = x5)
    (k0 : ∀ (L' : am_L), x4 = 0 → (0 ≤ x1 ∧ x1 ≤ 15) → (0 ≤ x2 ∧ x2 ≤ 7) → (0 ≤ x3 ∧ x3 ≤ 7) → (0 ≤ x4 ∧ x4 ≤ 0) → (0 ≤ x5 ∧ x5 ≤ 63) → lc L' 0 0 → li L' 1 x1 → li L' 2 x5 → li L' 3 x2 → li L' 4 (x3 + 1) → am_V none d 150 18 L' ([]) S Q)
    (k1 : ∀ (L' : am_L), x4 ≠ 0 → (0 ≤ x1 ∧ x1 ≤ 15) → (0 ≤ x2 ∧ x2 ≤ 7) → (0 ≤ x3 ∧ x3 ≤ 7) → (1 ≤ x4 ∧ x4 ≤ 1) → (0 ≤ x5 ∧ x5 ≤ 63) → lc L' 0 0 → li L' 1 x1 → li L' 2 (x5 + 1) → li L' 3 x2 → li L' 4 (x3 + 1) → am_V none d 150 18 L' ([]) S Q) : am_V none d 150 39 L ((.int i1) :: (.int i2) :: []) S Q := by
  refine sg_use sg_cf_x3_g hd hP (sg_xs [0, x1, x2, x3, x4, x5]) ⟨⟨Int.le_refl 0, Int.le_refl 0⟩, b1, b2, b3, b4, b5, trivial⟩ trivial trivial trivial ⟨l0, l1, l3, l4, trivial⟩ ⟨⟨_, rfl, s1⟩, ⟨_, rfl, s2⟩, trivial⟩ ?_
  intro z hz x' L' st' S' hx hP' hW hL' hs' hJ hE' hT' hD'
  have q1 : x' 1 = x1 := hx 1 (by decide)
  subst q1
  have q2 : x' 2 = x2 := hx 2 (by decide)
  subst q2
  have q3 : x' 3 = x3 := hx 3 (by decide)
  subst q3
  have q4 : x' 4 = x4 := hx 4 (by decide)
  subst q4
  have q5 : x' 5 = x5 := hx 5 (by decide)
  subst q5
  have eS : S' = S := hW.1 rfl
  subst eS
  simp only [sg_cf_x3_Z, List.mem_cons, List.not_mem_nil, or_false] at hz
  rcases hz with rfl | rfl
  · obtain ⟨f0, hσ⟩ := hJ
    obtain ⟨e0, e1, e2, e3, e4, -⟩ := hE'
    obtain ⟨p0, p1, p2, p3, p4, -⟩ := hL'
    obtain rfl := sg_tn hs'
    exact k0 L' f0 e0 e1 e2 e3 e4 p0 p1 p2 p3 p4
  · obtain ⟨f0, hσ⟩ := hJ
    obtain ⟨e0, e1, e2, e3, e4, -⟩ := hE'
    obtain ⟨p0, p1, p2, p3, p4, -⟩ := hL'
    obtain rfl := sg_tn hs'
    exact k1 L' f0 e0 e1 e2 e3 e4 p0 p1 p2 p3 p4
def sg_sf_x0_Z : List sg_z := [(6, [(0, .inr (.inl [0])), (1, .inl (false, (1, .ofNat 1, .ofNat 0))), (2, .inl (false, (2, .ofNat 1, .ofNat 0))), (3, .inl (false, (0, .ofNat 0, .ofNat 0))), (4, .inl (false, (0, .ofNat 0, .ofNat 0)))], [], [], [(1, [(.ofNat 0, .ofNat 15)])], [], [])]
set_option maxRecDepth 1000000 in
theorem sg_sf_x0_g : sg_go [] [5] 3000 151 0 0 3 [(0, [(.ofNat 0, .ofNat 0)]), (1, [(.ofNat 0, .ofNat 15)]), (2, [(.negSucc 2147483647, .ofNat 2147483647)])] [] [] [] [(0, .inr (.inl [0])), (1, .inl (false, (1, .ofNat 1, .ofNat 0))), (2, .inl (false, (2, .ofNat 1, .ofNat 0)))] [] [] sg_sf_x0_Z = true := by decide +kernel
set_option maxRecDepth 100000 in
theorem sg_sf_x0 {Q : Option Value × am_S → Prop} {d : Nat} {S : am_S} {L : am_L} {x1 x2 : Int} (hd : 0 ≤ d) (hP : ax_P0 none S) (l0 : lc L 0 0) (l1 : li L 1 x1) (l2 : li L 2 x2) (b1 : (0 ≤ x1 ∧ x1 ≤ 15)) (b2 : ((-2147483648) ≤ x2 ∧ x2 ≤ 2147483647))
    (k0 : ∀ (L' : am_L), (0 ≤ x1 ∧ x1 ≤ 15) → lc L' 0 0 → li L' 1 x1 → li L' 2 x2 → li L' 3 0 → li L' 4 0 → am_V none d 151 5 L' ([]) S Q) : am_V none d 151 0 L ([]) S Q := by
  refine sg_use sg_sf_x0_g hd hP (sg_xs [0, x1, x2]) ⟨⟨Int.le_refl 0, Int.le_refl 0⟩, b1, b2, trivial⟩ trivial trivial trivial ⟨l0, l1, l2, trivial⟩ trivial ?_
  intro z hz x' L' st' S' hx hP' hW hL' hs' hJ hE' hT' hD'
  have q1 : x' 1 = x1 := hx 1 (by decide)
  subst q1
  have q2 : x' 2 = x2 := hx 2 (by decide)
  subst q2
  have eS : S' = S := hW.1 rfl
  subst eS
  simp only [sg_sf_x0_Z, List.mem_cons, List.not_mem_nil, or_false] at hz
  rcases hz with rfl
  · have hσ := hJ
    obtain ⟨e0, -⟩ := hE'
    obtain ⟨p0, p1, p2, p3, p4, -⟩ := hL'
    obtain rfl := sg_tn hs'
    exact k0 L' e0 p0 p1 p2 p3 p4
def sg_sf_x1_Z : List sg_z := [(0, [], [.inl (false, (0, .ofNat 0, .negSucc 3))], [(2, 3, (4, .ofNat 1, .ofNat 0), (5, .ofNat 1, .ofNat 0), (0, .ofNat 0, .ofNat 0)), (0, 1, (0, .ofNat 0, .ofNat 0), (5, .ofNat 1, .ofNat 0), (0, .ofNat 0, .ofNat 0))], [(1, [(.ofNat 0, .ofNat 15)]), (3, [(.ofNat 0, .ofNat 64)]), (4, [(.ofNat 0, .ofNat 8)]), (5, [(.ofNat 0, .ofNat 8)])], [], []),
  (21, [(0, .inr (.inl [0])), (1, .inl (false, (1, .ofNat 1, .ofNat 0))), (2, .inl (false, (2, .ofNat 1, .ofNat 0))), (3, .inl (false, (3, .ofNat 1, .ofNat 0))), (4, .inl (false, (4, .ofNat 1, .ofNat 0))), (5, .inl (false, (0, .ofNat 0, .ofNat 0)))], [], [(2, 2, (4, .ofNat 1, .ofNat 0), (5, .ofNat 1, .ofNat 0), (0, .ofNat 0, .ofNat 0)), (0, 1, (0, .ofNat 0, .ofNat 0), (5, .ofNat 1, .ofNat 0), (0, .ofNat 0, .ofNat 0))], [(1, [(.ofNat 0, .ofNat 15)]), (3, [(.ofNat 0, .ofNat 64)]), (4, [(.ofNat 0, .ofNat 7)]), (5, [(.ofNat 1, .ofNat 8)])], [], [])]
set_option maxRecDepth 1000000 in
theorem sg_sf_x1_g : sg_go [] [20] 3000 151 5 0 5 [(0, [(.ofNat 0, .ofNat 0)]), (1, [(.ofNat 0, .ofNat 15)]), (2, [(.negSucc 2147483647, .ofNat 2147483647)]), (3, [(.ofNat 0, .ofNat 64)]), (4, [(.ofNat 0, .ofNat 8)])] [] [] [] [(0, .inr (.inl [0])), (1, .inl (false, (1, .ofNat 1, .ofNat 0))), (2, .inl (false, (2, .ofNat 1, .ofNat 0))), (3, .inl (false, (3, .ofNat 1, .ofNat 0))), (4, .inl (false, (4, .ofNat 1, .ofNat 0)))] [] [] sg_sf_x1_Z = true := by decide +kernel
set_option maxRecDepth 100000 in
theorem sg_sf_x1 {Q : Option Value × am_S → Prop} {d : Nat} {S : am_S} {L : am_L} {x1 x2 x3 x4 : Int} (hd : 0 ≤ d) (hP : ax_P0 none S) (l0 : lc L 0 0) (l1 : li L 1 x1) (l2 : li L 2 x2) (l3 : li L 3 x3) (l4 : li L 4 x4) (b1 : (0 ≤ x1 ∧ x1 ≤ 15)) (b2 : ((-2147483648) ≤ x2 ∧ x2 ≤ 2147483647)) (b3 : (0 ≤ x3 ∧ x3 ≤ 64)) (b4 : (0 ≤ x4 ∧ x4 ≤ 8))
    (k0 : ∀ (x5 : Int) (i1 : Int32), rd S 1 0 = x5 → x5 ≤ x4 → (0 ≤ x1 ∧ x1 ≤ 15) → (0 ≤ x3 ∧ x3 ≤ 64) → (0 ≤ x4 ∧ x4 ≤ 8) → (0 ≤ x5 ∧ x5 ≤ 8) → i1.toInt = (-4) → Q (some (.int i1), S))
    (k1 : ∀ (x5 : Int) (L' : am_L), rd S 1 0 = x5 → x4 < x5 → (0 ≤ x1 ∧ x1 ≤ 15) → (0 ≤ x3 ∧ x3 ≤ 64) → (0 ≤ x4 ∧ x4 ≤ 7) → (1 ≤ x5 ∧ x5 ≤ 8) → lc L' 0 0 → li L' 1 x1 → li L' 2 x2 → li L' 3 x3 → li L' 4 x4 → li L' 5 0 → am_V none d 151 20 L' ([]) S Q) : am_V none d 151 5 L ([]) S Q := by
  refine sg_use sg_sf_x1_g hd hP (sg_xs [0, x1, x2, x3, x4]) ⟨⟨Int.le_refl 0, Int.le_refl 0⟩, b1, b2, b3, b4, trivial⟩ trivial trivial trivial ⟨l0, l1, l2, l3, l4, trivial⟩ trivial ?_
  intro z hz x' L' st' S' hx hP' hW hL' hs' hJ hE' hT' hD'
  have q1 : x' 1 = x1 := hx 1 (by decide)
  subst q1
  have q2 : x' 2 = x2 := hx 2 (by decide)
  subst q2
  have q3 : x' 3 = x3 := hx 3 (by decide)
  subst q3
  have q4 : x' 4 = x4 := hx 4 (by decide)
  subst q4
  have eS : S' = S := hW.1 rfl
  subst eS
  simp only [sg_sf_x1_Z, List.mem_cons, List.not_mem_nil, or_false] at hz
  rcases hz with rfl | rfl
  · obtain ⟨f0, f1, hσ⟩ := hJ
    obtain ⟨e0, e1, e2, e3, -⟩ := hE'
    intro v hv
    subst hv
    cases v with
    | none => exact hs'.elim
    | some v1 =>
      obtain ⟨⟨i1, rfl, g1⟩, -⟩ := hs'
      exact k0 (x' 5) i1 f0 f1 e0 e1 e2 e3 g1
  · obtain ⟨f0, f1, hσ⟩ := hJ
    obtain ⟨e0, e1, e2, e3, -⟩ := hE'
    obtain ⟨p0, p1, p2, p3, p4, p5, -⟩ := hL'
    obtain rfl := sg_tn hs'
    exact k1 (x' 5) L' f0 f1 e0 e1 e2 e3 p0 p1 p2 p3 p4 p5
def sg_sf_x2_Z : List sg_z := [(6, [(0, .inr (.inl [0])), (1, .inl (false, (1, .ofNat 1, .ofNat 0))), (2, .inl (false, (2, .ofNat 1, .ofNat 0))), (3, .inl (false, (3, .ofNat 1, .ofNat 0))), (4, .inl (false, (4, .ofNat 1, .ofNat 1))), (5, .inl (false, (5, .ofNat 1, .ofNat 0)))], [], [(2, 3, (5, .ofNat 1, .ofNat 0), (6, .ofNat 1, .ofNat 0), (0, .ofNat 0, .ofNat 0)), (0, 1, (0, .ofNat 0, .ofNat 0), (6, .ofNat 1, .ofNat 0), (0, .ofNat 0, .ofNat 0))], [(1, [(.ofNat 0, .ofNat 15)]), (3, [(.ofNat 0, .ofNat 64)]), (4, [(.ofNat 0, .ofNat 7)]), (5, [(.ofNat 0, .ofNat 8)]), (6, [(.ofNat 0, .ofNat 8)])], [], []),
  (39, [(0, .inr (.inl [0])), (1, .inl (false, (1, .ofNat 1, .ofNat 0))), (2, .inl (false, (2, .ofNat 1, .ofNat 0))), (3, .inl (false, (3, .ofNat 1, .ofNat 0))), (4, .inl (false, (4, .ofNat 1, .ofNat 0))), (5, .inl (false, (5, .ofNat 1, .ofNat 0)))], [.inl (false, (5, .ofNat 1, .ofNat 0)), .inl (false, (4, .ofNat 1, .ofNat 0)), .inl (false, (1, .ofNat 1, .ofNat 0)), .inr (.inl [0])], [(2, 2, (5, .ofNat 1, .ofNat 0), (6, .ofNat 1, .ofNat 0), (0, .ofNat 0, .ofNat 0)), (0, 1, (0, .ofNat 0, .ofNat 0), (6, .ofNat 1, .ofNat 0), (0, .ofNat 0, .ofNat 0))], [(1, [(.ofNat 0, .ofNat 15)]), (3, [(.ofNat 0, .ofNat 64)]), (4, [(.ofNat 0, .ofNat 7)]), (5, [(.ofNat 0, .ofNat 7)]), (6, [(.ofNat 1, .ofNat 8)])], [], [])]
set_option maxRecDepth 1000000 in
theorem sg_sf_x2_g : sg_go [] [38, 5] 3000 151 20 0 6 [(0, [(.ofNat 0, .ofNat 0)]), (1, [(.ofNat 0, .ofNat 15)]), (2, [(.negSucc 2147483647, .ofNat 2147483647)]), (3, [(.ofNat 0, .ofNat 64)]), (4, [(.ofNat 0, .ofNat 7)]), (5, [(.ofNat 0, .ofNat 8)])] [] [] [] [(0, .inr (.inl [0])), (1, .inl (false, (1, .ofNat 1, .ofNat 0))), (2, .inl (false, (2, .ofNat 1, .ofNat 0))), (3, .inl (false, (3, .ofNat 1, .ofNat 0))), (4, .inl (false, (4, .ofNat 1, .ofNat 0))), (5, .inl (false, (5, .ofNat 1, .ofNat 0)))] [] [] sg_sf_x2_Z = true := by decide +kernel
set_option maxRecDepth 100000 in
theorem sg_sf_x2 {Q : Option Value × am_S → Prop} {d : Nat} {S : am_S} {L : am_L} {x1 x2 x3 x4 x5 : Int} (hd : 0 ≤ d) (hP : ax_P0 none S) (l0 : lc L 0 0) (l1 : li L 1 x1) (l2 : li L 2 x2) (l3 : li L 3 x3) (l4 : li L 4 x4) (l5 : li L 5 x5) (b1 : (0 ≤ x1 ∧ x1 ≤ 15)) (b2 : ((-2147483648) ≤ x2 ∧ x2 ≤ 2147483647)) (b3 : (0 ≤ x3 ∧ x3 ≤ 64)) (b4 : (0 ≤ x4 ∧ x4 ≤ 7)) (b5 : (0 ≤ x5 ∧ x5 ≤ 8))
    (k0 : ∀ (x6 : Int) (L' : am_L), rd S 1 0 = x6 → x6 ≤ x5 → (0 ≤ x1 ∧ x1 ≤ 15) → (0 ≤ x3 ∧ x3 ≤ 64) → (0 ≤ x4 ∧ x4 ≤ 7) → (0 ≤ x5 ∧ x5 ≤ 8) → (0 ≤ x6 ∧ x6 ≤ 8) → lc L' 0 0 → li L' 1 x1 → li L' 2 x2 → li L' 3 x3 → li L' 4 (x4 + 1) → li L' 5 x5 → am_V none d 151 5 L' ([]) S Q)
    (k1 : ∀ (x6 : Int) (L' : am_L) (i1 : Int32) (i2 : Int32) (i3 : Int32), rd S 1 0 = x6 → x5 < x6 → (0 ≤ x1 ∧ x1 ≤ 15) → (0 ≤ x3 ∧ x3 ≤ 64) → (0 ≤ x4 ∧ x4 ≤ 7) → (0 ≤ x5 ∧ x5 ≤ 7) → (1 ≤ x6 ∧ x6 ≤ 8) → lc L' 0 0 → li L' 1 x1 → li L' 2 x2 → li L' 3 x3 → li L' 4 x4 → li L' 5 x5 → i1.toInt = x5 → i2.toInt = x4 → i3.toInt = x1 → am_V none d 151 38 L' ((.int i1) :: (.int i2) :: (.int i3) :: (.ref 0) :: []) S Q) : am_V none d 151 20 L ([]) S Q := by
  refine sg_use sg_sf_x2_g hd hP (sg_xs [0, x1, x2, x3, x4, x5]) ⟨⟨Int.le_refl 0, Int.le_refl 0⟩, b1, b2, b3, b4, b5, trivial⟩ trivial trivial trivial ⟨l0, l1, l2, l3, l4, l5, trivial⟩ trivial ?_
  intro z hz x' L' st' S' hx hP' hW hL' hs' hJ hE' hT' hD'
  have q1 : x' 1 = x1 := hx 1 (by decide)
  subst q1
  have q2 : x' 2 = x2 := hx 2 (by decide)
  subst q2
  have q3 : x' 3 = x3 := hx 3 (by decide)
  subst q3
  have q4 : x' 4 = x4 := hx 4 (by decide)
  subst q4
  have q5 : x' 5 = x5 := hx 5 (by decide)
  subst q5
  have eS : S' = S := hW.1 rfl
  subst eS
  simp only [sg_sf_x2_Z, List.mem_cons, List.not_mem_nil, or_false] at hz
  rcases hz with rfl | rfl
  · obtain ⟨f0, f1, hσ⟩ := hJ
    obtain ⟨e0, e1, e2, e3, e4, -⟩ := hE'
    obtain ⟨p0, p1, p2, p3, p4, p5, -⟩ := hL'
    obtain rfl := sg_tn hs'
    exact k0 (x' 6) L' f0 f1 e0 e1 e2 e3 e4 p0 p1 p2 p3 p4 p5
  · obtain ⟨f0, f1, hσ⟩ := hJ
    obtain ⟨e0, e1, e2, e3, e4, -⟩ := hE'
    obtain ⟨p0, p1, p2, p3, p4, p5, -⟩ := hL'
    obtain ⟨v1, r1, rfl, ⟨i1, rfl, g1⟩, hs1⟩ := sg_tc hs'
    obtain ⟨v2, r2, rfl, ⟨i2, rfl, g2⟩, hs2⟩ := sg_tc hs1
    obtain ⟨v3, r3, rfl, ⟨i3, rfl, g3⟩, hs3⟩ := sg_tc hs2
    obtain ⟨v4, r4, rfl, rfl, hs4⟩ := sg_tc hs3
    obtain rfl := sg_tn hs4
    exact k1 (x' 6) L' i1 i2 i3 f0 f1 e0 e1 e2 e3 e4 p0 p1 p2 p3 p4 p5 g1 g2 g3
def sg_sf_x3_Z : List sg_z := [(21, [(0, .inr (.inl [0])), (1, .inl (false, (1, .ofNat 1, .ofNat 0))), (2, .inl (false, (2, .ofNat 1, .ofNat 0))), (3, .inl (false, (3, .ofNat 1, .ofNat 0))), (4, .inl (false, (4, .ofNat 1, .ofNat 0))), (5, .inl (false, (5, .ofNat 1, .ofNat 1)))], [], [(2, 0, (6, .ofNat 1, .ofNat 0), (0, .ofNat 0, .ofNat 0), (0, .ofNat 0, .ofNat 0))], [(1, [(.ofNat 0, .ofNat 15)]), (3, [(.ofNat 0, .ofNat 63)]), (4, [(.ofNat 0, .ofNat 7)]), (5, [(.ofNat 0, .ofNat 7)]), (6, [(.ofNat 0, .ofNat 0)])], [], []),
  (21, [(0, .inr (.inl [0])), (1, .inl (false, (1, .ofNat 1, .ofNat 0))), (2, .inl (false, (2, .ofNat 1, .ofNat 0))), (3, .inl (false, (3, .ofNat 1, .ofNat 1))), (4, .inl (false, (4, .ofNat 1, .ofNat 0))), (5, .inl (false, (5, .ofNat 1, .ofNat 1)))], [], [(2, 1, (3, .ofNat 1, .ofNat 0), (2, .ofNat 1, .ofNat 0), (0, .ofNat 0, .ofNat 0)), (2, 1, (6, .ofNat 1, .ofNat 0), (0, .ofNat 0, .ofNat 0), (0, .ofNat 0, .ofNat 0))], [(1, [(.ofNat 0, .ofNat 15)]), (3, [(.ofNat 0, .ofNat 63)]), (4, [(.ofNat 0, .ofNat 7)]), (5, [(.ofNat 0, .ofNat 7)]), (6, [(.ofNat 1, .ofNat 1)])], [], []),
  (0, [], [.inl (false, (7, .ofNat 1, .ofNat 0))], [(2, 0, (3, .ofNat 1, .ofNat 0), (2, .ofNat 1, .ofNat 0), (0, .ofNat 0, .ofNat 0)), (2, 1, (6, .ofNat 1, .ofNat 0), (0, .ofNat 0, .ofNat 0), (0, .ofNat 0, .ofNat 0))], [(1, [(.ofNat 0, .ofNat 15)]), (2, [(.ofNat 0, .ofNat 63)]), (3, [(.ofNat 0, .ofNat 63)]), (4, [(.ofNat 0, .ofNat 7)]), (5, [(.ofNat 0, .ofNat 7)]), (6, [(.ofNat 1, .ofNat 1)]), (7, [(.ofNat 0, .ofNat 63)])], [((4, .ofNat 8, .ofNat 0), (5, .ofNat 1, .ofNat 0), (7, .ofNat 1, .ofNat 0))], [])]
set_option maxRecDepth 1000000 in
theorem sg_sf_x3_g : sg_go [] [20] 3000 151 41 0 7 [(0, [(.ofNat 0, .ofNat 0)]), (1, [(.ofNat 0, .ofNat 15)]), (2, [(.negSucc 2147483647, .ofNat 2147483647)]), (3, [(.ofNat 0, .ofNat 63)]), (4, [(.ofNat 0, .ofNat 7)]), (5, [(.ofNat 0, .ofNat 7)]), (6, [(.ofNat 0, .ofNat 1)])] [] [] [] [(0, .inr (.inl [0])), (1, .inl (false, (1, .ofNat 1, .ofNat 0))), (2, .inl (false, (2, .ofNat 1, .ofNat 0))), (3, .inl (false, (3, .ofNat 1, .ofNat 0))), (4, .inl (false, (4, .ofNat 1, .ofNat 0))), (5, .inl (false, (5, .ofNat 1, .ofNat 0)))] [.inl (false, (6, .ofNat 1, .ofNat 0))] [] sg_sf_x3_Z = true := by decide +kernel
set_option maxRecDepth 100000 in
theorem sg_sf_x3 {Q : Option Value × am_S → Prop} {d : Nat} {S : am_S} {L : am_L} {x1 x2 x3 x4 x5 x6 : Int} {i1 : Int32} (hd : 0 ≤ d) (hP : ax_P0 none S) (l0 : lc L 0 0) (l1 : li L 1 x1) (l2 : li L 2 x2) (l3 : li L 3 x3) (l4 : li L 4 x4) (l5 : li L 5 x5) (b1 : (0 ≤ x1 ∧ x1 ≤ 15)) (b2 : ((-2147483648) ≤ x2 ∧ x2 ≤ 2147483647)) (b3 : (0 ≤ x3 ∧ x3 ≤ 63)) (b4 : (0 ≤ x4 ∧ x4 ≤ 7)) (b5 : (0 ≤ x5 ∧ x5 ≤ 7)) (b6 : (0 ≤ x6 ∧ x6 ≤ 1)) (s1 : i1.toInt = x6)
    (k0 : ∀ (L' : am_L), x6 = 0 → (0 ≤ x1 ∧ x1 ≤ 15) → (0 ≤ x3 ∧ x3 ≤ 63) → (0 ≤ x4 ∧ x4 ≤ 7) → (0 ≤ x5 ∧ x5 ≤ 7) → (0 ≤ x6 ∧ x6 ≤ 0) → lc L' 0 0 → li L' 1 x1 → li L' 2 x2 → li L' 3 x3 → li L' 4 x4 → li L' 5 (x5 + 1) → am_V none d 151 20 L' ([]) S Q)
    (k1 : ∀ (L' : am_L), x6 ≠ 0 → x3 ≠ x2 → (0 ≤ x1 ∧ x1 ≤ 15) → (0 ≤ x3 ∧ x3 ≤ 63) → (0 ≤ x4 ∧ x4 ≤ 7) → (0 ≤ x5 ∧ x5 ≤ 7) → (1 ≤ x6 ∧ x6 ≤ 1) → lc L' 0 0 → li L' 1 x1 → li L' 2 x2 → li L' 3 (x3 + 1) → li L' 4 x4 → li L' 5 (x5 + 1) → am_V none d 151 20 L' ([]) S Q)
    (k2 : ∀ (x7 : Int) (i1 : Int32), x6 ≠ 0 → x3 = x2 → (0 ≤ x1 ∧ x1 ≤ 15) → (0 ≤ x2 ∧ x2 ≤ 63) → (0 ≤ x3 ∧ x3 ≤ 63) → (0 ≤ x4 ∧ x4 ≤ 7) → (0 ≤ x5 ∧ x5 ≤ 7) → (1 ≤ x6 ∧ x6 ≤ 1) → (0 ≤ x7 ∧ x7 ≤ 63) → (8 * x4 + 0) + x5 = x7 → i1.toInt = x7 → Q (some (.int i1), S)) : am_V none d 151 41 L ((.int i1) :: []) S Q := by
  refine sg_use sg_sf_x3_g hd hP (sg_xs [0, x1, x2, x3, x4, x5, x6]) ⟨⟨Int.le_refl 0, Int.le_refl 0⟩, b1, b2, b3, b4, b5, b6, trivial⟩ trivial trivial trivial ⟨l0, l1, l2, l3, l4, l5, trivial⟩ ⟨⟨_, rfl, s1⟩, trivial⟩ ?_
  intro z hz x' L' st' S' hx hP' hW hL' hs' hJ hE' hT' hD'
  have q1 : x' 1 = x1 := hx 1 (by decide)
  subst q1
  have q2 : x' 2 = x2 := hx 2 (by decide)
  subst q2
  have q3 : x' 3 = x3 := hx 3 (by decide)
  subst q3
  have q4 : x' 4 = x4 := hx 4 (by decide)
  subst q4
  have q5 : x' 5 = x5 := hx 5 (by decide)
  subst q5
  have q6 : x' 6 = x6 := hx 6 (by decide)
  subst q6
  have eS : S' = S := hW.1 rfl
  subst eS
  simp only [sg_sf_x3_Z, List.mem_cons, List.not_mem_nil, or_false] at hz
  rcases hz with rfl | rfl | rfl
  · obtain ⟨f0, hσ⟩ := hJ
    obtain ⟨e0, e1, e2, e3, e4, -⟩ := hE'
    obtain ⟨p0, p1, p2, p3, p4, p5, -⟩ := hL'
    obtain rfl := sg_tn hs'
    exact k0 L' f0 e0 e1 e2 e3 e4 p0 p1 p2 p3 p4 p5
  · obtain ⟨f0, f1, hσ⟩ := hJ
    obtain ⟨e0, e1, e2, e3, e4, -⟩ := hE'
    obtain ⟨p0, p1, p2, p3, p4, p5, -⟩ := hL'
    obtain rfl := sg_tn hs'
    exact k1 L' f0 f1 e0 e1 e2 e3 e4 p0 p1 p2 p3 p4 p5
  · obtain ⟨f0, f1, hσ⟩ := hJ
    obtain ⟨e0, e1, e2, e3, e4, e5, e6, -⟩ := hE'
    obtain ⟨t0, -⟩ := hT'
    intro v hv
    subst hv
    cases v with
    | none => exact hs'.elim
    | some v1 =>
      obtain ⟨⟨i1, rfl, g1⟩, -⟩ := hs'
      exact k2 (x' 7) i1 f0 f1 e0 e1 e2 e3 e4 e5 e6 t0 g1
def sg_cf_m0_Z : List sg_z := [(0, [], [.inl (false, (0, .ofNat 0, .negSucc 0))], [(2, 0, (0, .ofNat 0, .ofNat 0), (0, .ofNat 0, .ofNat 0), (0, .ofNat 0, .ofNat 0)), (2, 2, (1, .ofNat 1, .ofNat 0), (0, .ofNat 0, .ofNat 0), (0, .ofNat 0, .ofNat 0)), (0, 122, (0, .ofNat 0, .ofNat 5), (2, .ofNat 1, .ofNat 0), (0, .ofNat 0, .ofNat 0))], [(1, [(.negSucc 2147483647, .negSucc 0)]), (2, [(.ofNat 0, .ofNat 16)])], [], []),
  (0, [], [.inl (false, (0, .ofNat 0, .negSucc 0))], [(2, 0, (0, .ofNat 0, .ofNat 0), (0, .ofNat 0, .ofNat 0), (0, .ofNat 0, .ofNat 0)), (2, 4, (1, .ofNat 1, .ofNat 0), (2, .ofNat 1, .negSucc 0), (0, .ofNat 0, .ofNat 0)), (2, 3, (1, .ofNat 1, .ofNat 0), (0, .ofNat 0, .ofNat 0), (0, .ofNat 0, .ofNat 0)), (0, 122, (0, .ofNat 0, .ofNat 5), (2, .ofNat 1, .ofNat 0), (0, .ofNat 0, .ofNat 0))], [(1, [(.ofNat 0, .ofNat 2147483647)]), (2, [(.ofNat 0, .ofNat 16)])], [], []),
  (15, [(0, .inr (.inl [122])), (1, .inl (false, (1, .ofNat 1, .ofNat 0))), (2, .inl (false, (0, .ofNat 0, .ofNat 0))), (3, .inl (false, (0, .ofNat 0, .ofNat 0)))], [], [(2, 1, (0, .ofNat 0, .ofNat 1), (0, .ofNat 0, .ofNat 0), (0, .ofNat 0, .ofNat 0)), (2, 5, (1, .ofNat 1, .ofNat 0), (2, .ofNat 1, .negSucc 0), (0, .ofNat 0, .ofNat 0)), (2, 3, (1, .ofNat 1, .ofNat 0), (0, .ofNat 0, .ofNat 0), (0, .ofNat 0, .ofNat 0)), (0, 122, (0, .ofNat 0, .ofNat 5), (2, .ofNat 1, .ofNat 0), (0, .ofNat 0, .ofNat 0))], [(1, [(.ofNat 0, .ofNat 15)]), (2, [(.ofNat 1, .ofNat 16)])], [], [])]
set_option maxRecDepth 1000000 in
theorem sg_cf_m0_g : sg_go [] [14] 3000 175 0 2 2 [(0, [(.ofNat 0, .ofNat 0)]), (1, [(.negSucc 2147483647, .ofNat 2147483647)])] [] [] [] [(0, .inr (.inl [122])), (1, .inl (false, (1, .ofNat 1, .ofNat 0)))] [] [] sg_cf_m0_Z = true := by decide +kernel
set_option maxRecDepth 100000 in
theorem sg_cf_m0 {Q : Option Value × am_S → Prop} {d : Nat} {S : am_S} {L : am_L} {x1 : Int} (hd : 2 ≤ d) (hP : ax_P0 none S) (l0 : lc L 0 122) (l1 : li L 1 x1) (b1 : ((-2147483648) ≤ x1 ∧ x1 ≤ 2147483647))
    (k0 : ∀ (x2 : Int) (i1 : Int32), rd S 122 5 = x2 → x1 < 0 → ((-2147483648) ≤ x1 ∧ x1 ≤ (-1)) → (0 ≤ x2 ∧ x2 ≤ 16) → i1.toInt = (-1) → Q (some (.int i1), S))
    (k1 : ∀ (x2 : Int) (i1 : Int32), rd S 122 5 = x2 → 0 ≤ x1 → x2 + (-1) < x1 → (0 ≤ x1 ∧ x1 ≤ 2147483647) → (0 ≤ x2 ∧ x2 ≤ 16) → i1.toInt = (-1) → Q (some (.int i1), S))
    (k2 : ∀ (x2 : Int) (L' : am_L), rd S 122 5 = x2 → 0 ≤ x1 → x1 ≤ x2 + (-1) → (0 ≤ x1 ∧ x1 ≤ 15) → (1 ≤ x2 ∧ x2 ≤ 16) → lc L' 0 122 → li L' 1 x1 → li L' 2 0 → li L' 3 0 → am_V none d 175 14 L' ([]) S Q) : am_V none d 175 0 L ([]) S Q := by
  refine sg_use sg_cf_m0_g hd hP (sg_xs [0, x1]) ⟨⟨Int.le_refl 0, Int.le_refl 0⟩, b1, trivial⟩ trivial trivial trivial ⟨l0, l1, trivial⟩ trivial ?_
  intro z hz x' L' st' S' hx hP' hW hL' hs' hJ hE' hT' hD'
  have q1 : x' 1 = x1 := hx 1 (by decide)
  subst q1
  have eS : S' = S := hW.1 rfl
  subst eS
  simp only [sg_cf_m0_Z, List.mem_cons, List.not_mem_nil, or_false] at hz
  rcases hz with rfl | rfl | rfl
  · obtain ⟨f0, f1, -, hσ⟩ := hJ
    obtain ⟨e0, e1, -⟩ := hE'
    intro v hv
    subst hv
    cases v with
    | none => exact hs'.elim
    | some v1 =>
      obtain ⟨⟨i1, rfl, g1⟩, -⟩ := hs'
      exact k0 (x' 2) i1 f0 f1 e0 e1 g1
  · obtain ⟨f0, f1, f2, -, hσ⟩ := hJ
    obtain ⟨e0, e1, -⟩ := hE'
    intro v hv
    subst hv
    cases v with
    | none => exact hs'.elim
    | some v1 =>
      obtain ⟨⟨i1, rfl, g1⟩, -⟩ := hs'
      exact k1 (x' 2) i1 f0 f1 f2 e0 e1 g1
  · obtain ⟨f0, f1, f2, -, hσ⟩ := hJ
    obtain ⟨e0, e1, -⟩ := hE'
    obtain ⟨p0, p1, p2, p3, -⟩ := hL'
    obtain rfl := sg_tn hs'
    exact k2 (x' 2) L' f0 f1 f2 e0 e1 p0 p1 p2 p3
def sg_cf_m1_Z : List sg_z := [(0, [], [.inl (false, (2, .ofNat 1, .ofNat 0))], [(2, 3, (3, .ofNat 1, .ofNat 0), (4, .ofNat 1, .ofNat 0), (0, .ofNat 0, .ofNat 0)), (0, 122, (0, .ofNat 0, .ofNat 0), (4, .ofNat 1, .ofNat 0), (0, .ofNat 0, .ofNat 0))], [(1, [(.ofNat 0, .ofNat 15)]), (2, [(.ofNat 0, .ofNat 64)]), (3, [(.ofNat 0, .ofNat 8)]), (4, [(.ofNat 0, .ofNat 8)])], [], []),
  (26, [(0, .inr (.inl [122])), (1, .inl (false, (1, .ofNat 1, .ofNat 0))), (2, .inl (false, (2, .ofNat 1, .ofNat 0))), (3, .inl (false, (3, .ofNat 1, .ofNat 0))), (4, .inl (false, (0, .ofNat 0, .ofNat 0)))], [], [(2, 2, (3, .ofNat 1, .ofNat 0), (4, .ofNat 1, .ofNat 0), (0, .ofNat 0, .ofNat 0)), (0, 122, (0, .ofNat 0, .ofNat 0), (4, .ofNat 1, .ofNat 0), (0, .ofNat 0, .ofNat 0))], [(1, [(.ofNat 0, .ofNat 15)]), (2, [(.ofNat 0, .ofNat 64)]), (3, [(.ofNat 0, .ofNat 7)]), (4, [(.ofNat 1, .ofNat 8)])], [], [])]
set_option maxRecDepth 1000000 in
theorem sg_cf_m1_g : sg_go [] [25] 3000 175 14 0 4 [(0, [(.ofNat 0, .ofNat 0)]), (1, [(.ofNat 0, .ofNat 15)]), (2, [(.ofNat 0, .ofNat 64)]), (3, [(.ofNat 0, .ofNat 8)])] [] [] [] [(0, .inr (.inl [122])), (1, .inl (false, (1, .ofNat 1, .ofNat 0))), (2, .inl (false, (2, .ofNat 1, .ofNat 0))), (3, .inl (false, (3, .ofNat 1, .ofNat 0)))] [] [] sg_cf_m1_Z = true := by decide +kernel
set_option maxRecDepth 100000 in
theorem sg_cf_m1 {Q : Option Value × am_S → Prop} {d : Nat} {S : am_S} {L : am_L} {x1 x2 x3 : Int} (hd : 0 ≤ d) (hP : ax_P0 none S) (l0 : lc L 0 122) (l1 : li L 1 x1) (l2 : li L 2 x2) (l3 : li L 3 x3) (b1 : (0 ≤ x1 ∧ x1 ≤ 15)) (b2 : (0 ≤ x2 ∧ x2 ≤ 64)) (b3 : (0 ≤ x3 ∧ x3 ≤ 8))
    (k0 : ∀ (x4 : Int) (i1 : Int32), rd S 122 0 = x4 → x4 ≤ x3 → (0 ≤ x1 ∧ x1 ≤ 15) → (0 ≤ x2 ∧ x2 ≤ 64) → (0 ≤ x3 ∧ x3 ≤ 8) → (0 ≤ x4 ∧ x4 ≤ 8) → i1.toInt = x2 → Q (some (.int i1), S))
    (k1 : ∀ (x4 : Int) (L' : am_L), rd S 122 0 = x4 → x3 < x4 → (0 ≤ x1 ∧ x1 ≤ 15) → (0 ≤ x2 ∧ x2 ≤ 64) → (0 ≤ x3 ∧ x3 ≤ 7) → (1 ≤ x4 ∧ x4 ≤ 8) → lc L' 0 122 → li L' 1 x1 → li L' 2 x2 → li L' 3 x3 → li L' 4 0 → am_V none d 175 25 L' ([]) S Q) : am_V none d 175 14 L ([]) S Q := by
  refine sg_use sg_cf_m1_g hd hP (sg_xs [0, x1, x2, x3]) ⟨⟨Int.le_refl 0, Int.le_refl 0⟩, b1, b2, b3, trivial⟩ trivial trivial trivial ⟨l0, l1, l2, l3, trivial⟩ trivial ?_
  intro z hz x' L' st' S' hx hP' hW hL' hs' hJ hE' hT' hD'
  have q1 : x' 1 = x1 := hx 1 (by decide)
  subst q1
  have q2 : x' 2 = x2 := hx 2 (by decide)
  subst q2
  have q3 : x' 3 = x3 := hx 3 (by decide)
  subst q3
  have eS : S' = S := hW.1 rfl
  subst eS
  simp only [sg_cf_m1_Z, List.mem_cons, List.not_mem_nil, or_false] at hz
  rcases hz with rfl | rfl
  · obtain ⟨f0, f1, hσ⟩ := hJ
    obtain ⟨e0, e1, e2, e3, -⟩ := hE'
    intro v hv
    subst hv
    cases v with
    | none => exact hs'.elim
    | some v1 =>
      obtain ⟨⟨i1, rfl, g1⟩, -⟩ := hs'
      exact k0 (x' 4) i1 f0 f1 e0 e1 e2 e3 g1
  · obtain ⟨f0, f1, hσ⟩ := hJ
    obtain ⟨e0, e1, e2, e3, -⟩ := hE'
    obtain ⟨p0, p1, p2, p3, p4, -⟩ := hL'
    obtain rfl := sg_tn hs'
    exact k1 (x' 4) L' f0 f1 e0 e1 e2 e3 p0 p1 p2 p3 p4
def sg_cf_m2_Z : List sg_z := [(15, [(0, .inr (.inl [122])), (1, .inl (false, (1, .ofNat 1, .ofNat 0))), (2, .inl (false, (2, .ofNat 1, .ofNat 0))), (3, .inl (false, (3, .ofNat 1, .ofNat 1))), (4, .inl (false, (4, .ofNat 1, .ofNat 0)))], [], [(2, 3, (4, .ofNat 1, .ofNat 0), (5, .ofNat 1, .ofNat 0), (0, .ofNat 0, .ofNat 0)), (0, 122, (0, .ofNat 0, .ofNat 0), (5, .ofNat 1, .ofNat 0), (0, .ofNat 0, .ofNat 0))], [(1, [(.ofNat 0, .ofNat 15)]), (2, [(.ofNat 0, .ofNat 64)]), (3, [(.ofNat 0, .ofNat 7)]), (4, [(.ofNat 0, .ofNat 8)]), (5, [(.ofNat 0, .ofNat 8)])], [], []),
  (41, [(0, .inr (.inl [122])), (1, .inl (false, (1, .ofNat 1, .ofNat 0))), (2, .inl (false, (2, .ofNat 1, .ofNat 0))), (3, .inl (false, (3, .ofNat 1, .ofNat 0))), (4, .inl (false, (4, .ofNat 1, .ofNat 0)))], [.inl (false, (4, .ofNat 1, .ofNat 0)), .inl (false, (3, .ofNat 1, .ofNat 0)), .inl (false, (1, .ofNat 1, .ofNat 0)), .inr (.inl [122]), .inl (false, (2, .ofNat 1, .ofNat 0))], [(2, 2, (4, .ofNat 1, .ofNat 0), (5, .ofNat 1, .ofNat 0), (0, .ofNat 0, .ofNat 0)), (0, 122, (0, .ofNat 0, .ofNat 0), (5, .ofNat 1, .ofNat 0), (0, .ofNat 0, .ofNat 0))], [(1, [(.ofNat 0, .ofNat 15)]), (2, [(.ofNat 0, .ofNat 64)]), (3, [(.ofNat 0, .ofNat 7)]), (4, [(.ofNat 0, .ofNat 7)]), (5, [(.ofNat 1, .ofNat 8)])], [], [])]
set_option maxRecDepth 1000000 in
theorem sg_cf_m2_g : sg_go [] [40, 14] 3000 175 25 0 5 [(0, [(.ofNat 0, .ofNat 0)]), (1, [(.ofNat 0, .ofNat 15)]), (2, [(.ofNat 0, .ofNat 64)]), (3, [(.ofNat 0, .ofNat 7)]), (4, [(.ofNat 0, .ofNat 8)])] [] [] [] [(0, .inr (.inl [122])), (1, .inl (false, (1, .ofNat 1, .ofNat 0))), (2, .inl (false, (2, .ofNat 1, .ofNat 0))), (3, .inl (false, (3, .ofNat 1, .ofNat 0))), (4, .inl (false, (4, .ofNat 1, .ofNat 0)))] [] [] sg_cf_m2_Z = true := by decide +kernel
set_option maxRecDepth 100000 in
theorem sg_cf_m2 {Q : Option Value × am_S → Prop} {d : Nat} {S : am_S} {L : am_L} {x1 x2 x3 x4 : Int} (hd : 0 ≤ d) (hP : ax_P0 none S) (l0 : lc L 0 122) (l1 : li L 1 x1) (l2 : li L 2 x2) (l3 : li L 3 x3) (l4 : li L 4 x4) (b1 : (0 ≤ x1 ∧ x1 ≤ 15)) (b2 : (0 ≤ x2 ∧ x2 ≤ 64)) (b3 : (0 ≤ x3 ∧ x3 ≤ 7)) (b4 : (0 ≤ x4 ∧ x4 ≤ 8))
    (k0 : ∀ (x5 : Int) (L' : am_L), rd S 122 0 = x5 → x5 ≤ x4 → (0 ≤ x1 ∧ x1 ≤ 15) → (0 ≤ x2 ∧ x2 ≤ 64) → (0 ≤ x3 ∧ x3 ≤ 7) → (0 ≤ x4 ∧ x4 ≤ 8) → (0 ≤ x5 ∧ x5 ≤ 8) → lc L' 0 122 → li L' 1 x1 → li L' 2 x2 → li L' 3 (x3 + 1) → li L' 4 x4 → am_V none d 175 14 L' ([]) S Q)
    (k1 : ∀ (x5 : Int) (L' : am_L) (i1 : Int32) (i2 : Int32) (i3 : Int32) (i5 : Int32), rd S 122 0 = x5 → x4 < x5 → (0 ≤ x1 ∧ x1 ≤ 15) → (0 ≤ x2 ∧ x2 ≤ 64) → (0 ≤ x3 ∧ x3 ≤ 7) → (0 ≤ x4 ∧ x4 ≤ 7) → (1 ≤ x5 ∧ x5 ≤ 8) → lc L' 0 122 → li L' 1 x1 → li L' 2 x2 → li L' 3 x3 → li L' 4 x4 → i1.toInt = x4 → i2.toInt = x3 → i3.toInt = x1 → i5.toInt = x2 → am_V none d 175 40 L' ((.int i1) :: (.int i2) :: (.int i3) :: (.ref 122) :: (.int i5) :: []) S Q) : am_V none d 175 25 L ([]) S Q := by
  refine sg_use sg_cf_m2_g hd hP (sg_xs [0, x1, x2, x3, x4]) ⟨⟨Int.le_refl 0, Int.le_refl 0⟩, b1, b2, b3, b4, trivial⟩ trivial trivial trivial ⟨l0, l1, l2, l3, l4, trivial⟩ trivial ?_
  intro z hz x' L' st' S' hx hP' hW hL' hs' hJ hE' hT' hD'
  have q1 : x' 1 = x1 := hx 1 (by decide)
  subst q1
  have q2 : x' 2 = x2 := hx 2 (by decide)
  subst q2
  have q3 : x' 3 = x3 := hx 3 (by decide)
  subst q3
  have q4 : x' 4 = x4 := hx 4 (by decide)
  subst q4
  have eS : S' = S := hW.1 rfl
  subst eS
  simp only [sg_cf_m2_Z, List.mem_cons, List.not_mem_nil, or_false] at hz
  rcases hz with rfl | rfl
  · obtain ⟨f0, f1, hσ⟩ := hJ
    obtain ⟨e0, e1, e2, e3, e4, -⟩ := hE'
    obtain ⟨p0, p1, p2, p3, p4, -⟩ := hL'
    obtain rfl := sg_tn hs'
    exact k0 (x' 5) L' f0 f1 e0 e1 e2 e3 e4 p0 p1 p2 p3 p4
  · obtain ⟨f0, f1, hσ⟩ := hJ
    obtain ⟨e0, e1, e2, e3, e4, -⟩ := hE'
    obtain ⟨p0, p1, p2, p3, p4, -⟩ := hL'
    obtain ⟨v1, r1, rfl, ⟨i1, rfl, g1⟩, hs1⟩ := sg_tc hs'
    obtain ⟨v2, r2, rfl, ⟨i2, rfl, g2⟩, hs2⟩ := sg_tc hs1
    obtain ⟨v3, r3, rfl, ⟨i3, rfl, g3⟩, hs3⟩ := sg_tc hs2
    obtain ⟨v4, r4, rfl, rfl, hs4⟩ := sg_tc hs3
    obtain ⟨v5, r5, rfl, ⟨i5, rfl, g5⟩, hs5⟩ := sg_tc hs4
    obtain rfl := sg_tn hs5
    exact k1 (x' 5) L' i1 i2 i3 i5 f0 f1 e0 e1 e2 e3 e4 p0 p1 p2 p3 p4 g1 g2 g3 g5
def sg_cf_m3_Z : List sg_z := [(26, [(0, .inr (.inl [122])), (1, .inl (false, (1, .ofNat 1, .ofNat 0))), (2, .inl (false, (5, .ofNat 1, .ofNat 0))), (3, .inl (false, (2, .ofNat 1, .ofNat 0))), (4, .inl (false, (3, .ofNat 1, .ofNat 1)))], [], [(2, 0, (4, .ofNat 1, .ofNat 0), (0, .ofNat 0, .ofNat 0), (0, .ofNat 0, .ofNat 0))], [(1, [(.ofNat 0, .ofNat 15)]), (2, [(.ofNat 0, .ofNat 7)]), (3, [(.ofNat 0, .ofNat 7)]), (4, [(.ofNat 0, .ofNat 0)]), (5, [(.ofNat 0, .ofNat 63)])], [], []),
  (26, [(0, .inr (.inl [122])), (1, .inl (false, (1, .ofNat 1, .ofNat 0))), (2, .inl (false, (5, .ofNat 1, .ofNat 1))), (3, .inl (false, (2, .ofNat 1, .ofNat 0))), (4, .inl (false, (3, .ofNat 1, .ofNat 1)))], [], [(2, 1, (4, .ofNat 1, .ofNat 0), (0, .ofNat 0, .ofNat 0), (0, .ofNat 0, .ofNat 0))], [(1, [(.ofNat 0, .ofNat 15)]), (2, [(.ofNat 0, .ofNat 7)]), (3, [(.ofNat 0, .ofNat 7)]), (4, [(.ofNat 1, .ofNat 1)]), (5, [(.ofNat 0, .ofNat 63)])], [], [])]
set_option maxRecDepth 1000000 in
theorem sg_cf_m3_g : sg_go [] [25] 3000 175 43 0 6 [(0, [(.ofNat 0, .ofNat 0)]), (1, [(.ofNat 0, .ofNat 15)]), (2, [(.ofNat 0, .ofNat 7)]), (3, [(.ofNat 0, .ofNat 7)]), (4, [(.ofNat 0, .ofNat 1)]), (5, [(.ofNat 0, .ofNat 63)])] [] [] [] [(0, .inr (.inl [122])), (1, .inl (false, (1, .ofNat 1, .ofNat 0))), (3, .inl (false, (2, .ofNat 1, .ofNat 0))), (4, .inl (false, (3, .ofNat 1, .ofNat 0)))] [.inl (false, (4, .ofNat 1, .ofNat 0)), .inl (false, (5, .ofNat 1, .ofNat 0))] [] sg_cf_m3_Z = true := by decide +kernel
set_option maxRecDepth 100000 in
theorem sg_cf_m3 {Q : Option Value × am_S → Prop} {d : Nat} {S : am_S} {L : am_L} {x1 x2 x3 x4 x5 : Int} {i1 : Int32} {i2 : Int32} (hd : 0 ≤ d) (hP : ax_P0 none S) (l0 : lc L 0 122) (l1 : li L 1 x1) (l3 : li L 3 x2) (l4 : li L 4 x3) (b1 : (0 ≤ x1 ∧ x1 ≤ 15)) (b2 : (0 ≤ x2 ∧ x2 ≤ 7)) (b3 : (0 ≤ x3 ∧ x3 ≤ 7)) (b4 : (0 ≤ x4 ∧ x4 ≤ 1)) (b5 : (0 ≤ x5 ∧ x5 ≤ 63)) (s1 : i1.toInt = x4) (s2 : i2.toInt = x5)
    (k0 : ∀ (L' : am_L), x4 = 0 → (0 ≤ x1 ∧ x1 ≤ 15) → (0 ≤ x2 ∧ x2 ≤ 7) → (0 ≤ x3 ∧ x3 ≤ 7) → (0 ≤ x4 ∧ x4 ≤ 0) → (0 ≤ x5 ∧ x5 ≤ 63) → lc L' 0 122 → li L' 1 x1 → li L' 2 x5 → li L' 3 x2 → li L' 4 (x3 + 1) → am_V none d 175 25 L' ([]) S Q)
    (k1 : ∀ (L' : am_L), x4 ≠ 0 → (0 ≤ x1 ∧ x1 ≤ 15) → (0 ≤ x2 ∧ x2 ≤ 7) → (0 ≤ x3 ∧ x3 ≤ 7) → (1 ≤ x4 ∧ x4 ≤ 1) → (0 ≤ x5 ∧ x5 ≤ 63) → lc L' 0 122 → li L' 1 x1 → li L' 2 (x5 + 1) → li L' 3 x2 → li L' 4 (x3 + 1) → am_V none d 175 25 L' ([]) S Q) : am_V none d 175 43 L ((.int i1) :: (.int i2) :: []) S Q := by
  refine sg_use sg_cf_m3_g hd hP (sg_xs [0, x1, x2, x3, x4, x5]) ⟨⟨Int.le_refl 0, Int.le_refl 0⟩, b1, b2, b3, b4, b5, trivial⟩ trivial trivial trivial ⟨l0, l1, l3, l4, trivial⟩ ⟨⟨_, rfl, s1⟩, ⟨_, rfl, s2⟩, trivial⟩ ?_
  intro z hz x' L' st' S' hx hP' hW hL' hs' hJ hE' hT' hD'
  have q1 : x' 1 = x1 := hx 1 (by decide)
  subst q1
  have q2 : x' 2 = x2 := hx 2 (by decide)
  subst q2
  have q3 : x' 3 = x3 := hx 3 (by decide)
  subst q3
  have q4 : x' 4 = x4 := hx 4 (by decide)
  subst q4
  have q5 : x' 5 = x5 := hx 5 (by decide)
  subst q5
  have eS : S' = S := hW.1 rfl
  subst eS
  simp only [sg_cf_m3_Z, List.mem_cons, List.not_mem_nil, or_false] at hz
  rcases hz with rfl | rfl
  · obtain ⟨f0, hσ⟩ := hJ
    obtain ⟨e0, e1, e2, e3, e4, -⟩ := hE'
    obtain ⟨p0, p1, p2, p3, p4, -⟩ := hL'
    obtain rfl := sg_tn hs'
    exact k0 L' f0 e0 e1 e2 e3 e4 p0 p1 p2 p3 p4
  · obtain ⟨f0, hσ⟩ := hJ
    obtain ⟨e0, e1, e2, e3, e4, -⟩ := hE'
    obtain ⟨p0, p1, p2, p3, p4, -⟩ := hL'
    obtain rfl := sg_tn hs'
    exact k1 L' f0 e0 e1 e2 e3 e4 p0 p1 p2 p3 p4
def sg_sf_m0_Z : List sg_z := [(6, [(0, .inr (.inl [122])), (1, .inl (false, (1, .ofNat 1, .ofNat 0))), (2, .inl (false, (2, .ofNat 1, .ofNat 0))), (3, .inl (false, (2, .ofNat 1, .ofNat 0))), (4, .inl (false, (0, .ofNat 0, .ofNat 0)))], [], [], [(1, [(.ofNat 0, .ofNat 15)]), (2, [(.ofNat 0, .ofNat 2147483647)])], [], [])]
set_option maxRecDepth 1000000 in
theorem sg_sf_m0_g : sg_go [] [5] 3000 176 0 0 3 [(0, [(.ofNat 0, .ofNat 0)]), (1, [(.ofNat 0, .ofNat 15)]), (2, [(.ofNat 0, .ofNat 2147483647)])] [] [] [] [(0, .inr (.inl [122])), (1, .inl (false, (1, .ofNat 1, .ofNat 0))), (2, .inl (false, (2, .ofNat 1, .ofNat 0)))] [] [] sg_sf_m0_Z = true := by decide +kernel
set_option maxRecDepth 100000 in
theorem sg_sf_m0 {Q : Option Value × am_S → Prop} {d : Nat} {S : am_S} {L : am_L} {x1 x2 : Int} (hd : 0 ≤ d) (hP : ax_P0 none S) (l0 : lc L 0 122) (l1 : li L 1 x1) (l2 : li L 2 x2) (b1 : (0 ≤ x1 ∧ x1 ≤ 15)) (b2 : (0 ≤ x2 ∧ x2 ≤ 2147483647))
    (k0 : ∀ (L' : am_L), (0 ≤ x1 ∧ x1 ≤ 15) → (0 ≤ x2 ∧ x2 ≤ 2147483647) → lc L' 0 122 → li L' 1 x1 → li L' 2 x2 → li L' 3 x2 → li L' 4 0 → am_V none d 176 5 L' ([]) S Q) : am_V none d 176 0 L ([]) S Q := by
  refine sg_use sg_sf_m0_g hd hP (sg_xs [0, x1, x2]) ⟨⟨Int.le_refl 0, Int.le_refl 0⟩, b1, b2, trivial⟩ trivial trivial trivial ⟨l0, l1, l2, trivial⟩ trivial ?_
  intro z hz x' L' st' S' hx hP' hW hL' hs' hJ hE' hT' hD'
  have q1 : x' 1 = x1 := hx 1 (by decide)
  subst q1
  have q2 : x' 2 = x2 := hx 2 (by decide)
  subst q2
  have eS : S' = S := hW.1 rfl
  subst eS
  simp only [sg_sf_m0_Z, List.mem_cons, List.not_mem_nil, or_false] at hz
  rcases hz with rfl
  · have hσ := hJ
    obtain ⟨e0, e1, -⟩ := hE'
    obtain ⟨p0, p1, p2, p3, p4, -⟩ := hL'
    obtain rfl := sg_tn hs'
    exact k0 L' e0 e1 p0 p1 p2 p3 p4
def sg_sf_m1_Z : List sg_z := [(0, [], [.inl (false, (0, .ofNat 0, .negSucc 3))], [(2, 3, (3, .ofNat 1, .ofNat 0), (4, .ofNat 1, .ofNat 0), (0, .ofNat 0, .ofNat 0)), (0, 122, (0, .ofNat 0, .ofNat 0), (4, .ofNat 1, .ofNat 0), (0, .ofNat 0, .ofNat 0))], [(1, [(.ofNat 0, .ofNat 15)]), (2, [(.ofNat 0, .ofNat 2147483647)]), (3, [(.ofNat 0, .ofNat 8)]), (4, [(.ofNat 0, .ofNat 8)])], [], []),
  (18, [(0, .inr (.inl [122])), (1, .inl (false, (1, .ofNat 1, .ofNat 0))), (3, .inl (false, (2, .ofNat 1, .ofNat 0))), (4, .inl (false, (3, .ofNat 1, .ofNat 0))), (5, .inl (false, (0, .ofNat 0, .ofNat 0)))], [], [(2, 2, (3, .ofNat 1, .ofNat 0), (4, .ofNat 1, .ofNat 0), (0, .ofNat 0, .ofNat 0)), (0, 122, (0, .ofNat 0, .ofNat 0), (4, .ofNat 1, .ofNat 0), (0, .ofNat 0, .ofNat 0))], [(1, [(.ofNat 0, .ofNat 15)]), (2, [(.ofNat 0, .ofNat 2147483647)]), (3, [(.ofNat 0, .ofNat 7)]), (4, [(.ofNat 1, .ofNat 8)])], [], [])]
set_option maxRecDepth 1000000 in
theorem sg_sf_m1_g : sg_go [] [17] 3000 176 5 0 4 [(0, [(.ofNat 0, .ofNat 0)]), (1, [(.ofNat 0, .ofNat 15)]), (2, [(.ofNat 0, .ofNat 2147483647)]), (3, [(.ofNat 0, .ofNat 8)])] [] [] [] [(0, .inr (.inl [122])), (1, .inl (false, (1, .ofNat 1, .ofNat 0))), (3, .inl (false, (2, .ofNat 1, .ofNat 0))), (4, .inl (false, (3, .ofNat 1, .ofNat 0)))] [] [] sg_sf_m1_Z = true := by decide +kernel
set_option maxRecDepth 100000 in
theorem sg_sf_m1 {Q : Option Value × am_S → Prop} {d : Nat} {S : am_S} {L : am_L} {x1 x2 x3 : Int} (hd : 0 ≤ d) (hP : ax_P0 none S) (l0 : lc L 0 122) (l1 : li L 1 x1) (l3 : li L 3 x2) (l4 : li L 4 x3) (b1 : (0 ≤ x1 ∧ x1 ≤ 15)) (b2 : (0 ≤ x2 ∧ x2 ≤ 2147483647)) (b3 : (0 ≤ x3 ∧ x3 ≤ 8))
    (k0 : ∀ (x4 : Int) (i1 : Int32), rd S 122 0 = x4 → x4 ≤ x3 → (0 ≤ x1 ∧ x1 ≤ 15) → (0 ≤ x2 ∧ x2 ≤ 2147483647) → (0 ≤ x3 ∧ x3 ≤ 8) → (0 ≤ x4 ∧ x4 ≤ 8) → i1.toInt = (-4) → Q (some (.int i1), S))
    (k1 : ∀ (x4 : Int) (L' : am_L), rd S 122 0 = x4 → x3 < x4 → (0 ≤ x1 ∧ x1 ≤ 15) → (0 ≤ x2 ∧ x2 ≤ 2147483647) → (0 ≤ x3 ∧ x3 ≤ 7) → (1 ≤ x4 ∧ x4 ≤ 8) → lc L' 0 122 → li L' 1 x1 → li L' 3 x2 → li L' 4 x3 → li L' 5 0 → am_V none d 176 17 L' ([]) S Q) : am_V none d 176 5 L ([]) S Q := by
  refine sg_use sg_sf_m1_g hd hP (sg_xs [0, x1, x2, x3]) ⟨⟨Int.le_refl 0, Int.le_refl 0⟩, b1, b2, b3, trivial⟩ trivial trivial trivial ⟨l0, l1, l3, l4, trivial⟩ trivial ?_
  intro z hz x' L' st' S' hx hP' hW hL' hs' hJ hE' hT' hD'
  have q1 : x' 1 = x1 := hx 1 (by decide)
  subst q1
  have q2 : x' 2 = x2 := hx 2 (by decide)
  subst q2
  have q3 : x' 3 = x3 := hx 3 (by decide)
  subst q3
  have eS : S' = S := hW.1 rfl
  subst eS
  simp only [sg_sf_m1_Z, List.mem_cons, List.not_mem_nil, or_false] at hz
  rcases hz with rfl | rfl
  · obtain ⟨f0, f1, hσ⟩ := hJ
    obtain ⟨e0, e1, e2, e3, -⟩ := hE'
    intro v hv
    subst hv
    cases v with
    | none => exact hs'.elim
    | some v1 =>
      obtain ⟨⟨i1, rfl, g1⟩, -⟩ := hs'
      exact k0 (x' 4) i1 f0 f1 e0 e1 e2 e3 g1
  · obtain ⟨f0, f1, hσ⟩ := hJ
    obtain ⟨e0, e1, e2, e3, -⟩ := hE'
    obtain ⟨p0, p1, p2, p3, p4, -⟩ := hL'
    obtain rfl := sg_tn hs'
    exact k1 (x' 4) L' f0 f1 e0 e1 e2 e3 p0 p1 p2 p3 p4
def sg_sf_m2_Z : List sg_z := [(6, [(0, .inr (.inl [122])), (1, .inl (false, (1, .ofNat 1, .ofNat 0))), (3, .inl (false, (2, .ofNat 1, .ofNat 0))), (4, .inl (false, (3, .ofNat 1, .ofNat 1))), (5, .inl (false, (4, .ofNat 1, .ofNat 0)))], [], [(2, 3, (4, .ofNat 1, .ofNat 0), (5, .ofNat 1, .ofNat 0), (0, .ofNat 0, .ofNat 0)), (0, 122, (0, .ofNat 0, .ofNat 0), (5, .ofNat 1, .ofNat 0), (0, .ofNat 0, .ofNat 0))], [(1, [(.ofNat 0, .ofNat 15)]), (2, [(.ofNat 0, .ofNat 2147483647)]), (3, [(.ofNat 0, .ofNat 7)]), (4, [(.ofNat 0, .ofNat 8)]), (5, [(.ofNat 0, .ofNat 8)])], [], []),
  (33, [(0, .inr (.inl [122])), (1, .inl (false, (1, .ofNat 1, .ofNat 0))), (3, .inl (false, (2, .ofNat 1, .ofNat 0))), (4, .inl (false, (3, .ofNat 1, .ofNat 0))), (5, .inl (false, (4, .ofNat 1, .ofNat 0)))], [.inl (false, (4, .ofNat 1, .ofNat 0)), .inl (false, (3, .ofNat 1, .ofNat 0)), .inl (false, (1, .ofNat 1, .ofNat 0)), .inr (.inl [122])], [(2, 2, (4, .ofNat 1, .ofNat 0), (5, .ofNat 1, .ofNat 0), (0, .ofNat 0, .ofNat 0)), (0, 122, (0, .ofNat 0, .ofNat 0), (5, .ofNat 1, .ofNat 0), (0, .ofNat 0, .ofNat 0))], [(1, [(.ofNat 0, .ofNat 15)]), (2, [(.ofNat 0, .ofNat 2147483647)]), (3, [(.ofNat 0, .ofNat 7)]), (4, [(.ofNat 0, .ofNat 7)]), (5, [(.ofNat 1, .ofNat 8)])], [], [])]
set_option maxRecDepth 1000000 in
theorem sg_sf_m2_g : sg_go [] [32, 5] 3000 176 17 0 5 [(0, [(.ofNat 0, .ofNat 0)]), (1, [(.ofNat 0, .ofNat 15)]), (2, [(.ofNat 0, .ofNat 2147483647)]), (3, [(.ofNat 0, .ofNat 7)]), (4, [(.ofNat 0, .ofNat 8)])] [] [] [] [(0, .inr (.inl [122])), (1, .inl (false, (1, .ofNat 1, .ofNat 0))), (3, .inl (false, (2, .ofNat 1, .ofNat 0))), (4, .inl (false, (3, .ofNat 1, .ofNat 0))), (5, .inl (false, (4, .ofNat 1, .ofNat 0)))] [] [] sg_sf_m2_Z = true := by decide +kernel
set_option maxRecDepth 100000 in
theorem sg_sf_m2 {Q : Option Value × am_S → Prop} {d : Nat} {S : am_S} {L : am_L} {x1 x2 x3 x4 : Int} (hd : 0 ≤ d) (hP : ax_P0 none S) (l0 : lc L 0 122) (l1 : li L 1 x1) (l3 : li L 3 x2) (l4 : li L 4 x3) (l5 : li L 5 x4) (b1 : (0 ≤ x1 ∧ x1 ≤ 15)) (b2 : (0 ≤ x2 ∧ x2 ≤ 2147483647)) (b3 : (0 ≤ x3 ∧ x3 ≤ 7)) (b4 : (0 ≤ x4 ∧ x4 ≤ 8))
    (k0 : ∀ (x5 : Int) (L' : am_L), rd S 122 0 = x5 → x5 ≤ x4 → (0 ≤ x1 ∧ x1 ≤ 15) → (0 ≤ x2 ∧ x2 ≤ 2147483647) → (0 ≤ x3 ∧ x3 ≤ 7) → (0 ≤ x4 ∧ x4 ≤ 8) → (0 ≤ x5 ∧ x5 ≤ 8) → lc L' 0 122 → li L' 1 x1 → li L' 3 x2 → li L' 4 (x3 + 1) → li L' 5 x4 → am_V none d 176 5 L' ([]) S Q)
    (k1 : ∀ (x5 : Int) (L' : am_L) (i1 : Int32) (i2 : Int32) (i3 : Int32), rd S 122 0 = x5 → x4 < x5 → (0 ≤ x1 ∧ x1 ≤ 15) → (0 ≤ x2 ∧ x2 ≤ 2147483647) → (0 ≤ x3 ∧ x3 ≤ 7) → (0 ≤ x4 ∧ x4 ≤ 7) → (1 ≤ x5 ∧ x5 ≤ 8) → lc L' 0 122 → li L' 1 x1 → li L' 3 x2 → li L' 4 x3 → li L' 5 x4 → i1.toInt = x4 → i2.toInt = x3 → i3.toInt = x1 → am_V none d 176 32 L' ((.int i1) :: (.int i2) :: (.int i3) :: (.ref 122) :: []) S Q) : am_V none d 176 17 L ([]) S Q := by
  refine sg_use sg_sf_m2_g hd hP (sg_xs [0, x1, x2, x3, x4]) ⟨⟨Int.le_refl 0, Int.le_refl 0⟩, b1, b2, b3, b4, trivial⟩ trivial trivial trivial ⟨l0, l1, l3, l4, l5, trivial⟩ trivial ?_
  intro z hz x' L' st' S' hx hP' hW hL' hs' hJ hE' hT' hD'
  have q1 : x' 1 = x1 := hx 1 (by decide)
  subst q1
  have q2 : x' 2 = x2 := hx 2 (by decide)
  subst q2
  have q3 : x' 3 = x3 := hx 3 (by decide)
  subst q3
  have q4 : x' 4 = x4 := hx 4 (by decide)
  subst q4
  have eS : S' = S := hW.1 rfl
  subst eS
  simp only [sg_sf_m2_Z, List.mem_cons, List.not_mem_nil, or_false] at hz
  rcases hz with rfl | rfl
  · obtain ⟨f0, f1, hσ⟩ := hJ
    obtain ⟨e0, e1, e2, e3, e4, -⟩ := hE'
    obtain ⟨p0, p1, p2, p3, p4, -⟩ := hL'
    obtain rfl := sg_tn hs'
    exact k0 (x' 5) L' f0 f1 e0 e1 e2 e3 e4 p0 p1 p2 p3 p4
  · obtain ⟨f0, f1, hσ⟩ := hJ
    obtain ⟨e0, e1, e2, e3, e4, -⟩ := hE'
    obtain ⟨p0, p1, p2, p3, p4, -⟩ := hL'
    obtain ⟨v1, r1, rfl, ⟨i1, rfl, g1⟩, hs1⟩ := sg_tc hs'
    obtain ⟨v2, r2, rfl, ⟨i2, rfl, g2⟩, hs2⟩ := sg_tc hs1
    obtain ⟨v3, r3, rfl, ⟨i3, rfl, g3⟩, hs3⟩ := sg_tc hs2
    obtain ⟨v4, r4, rfl, rfl, hs4⟩ := sg_tc hs3
    obtain rfl := sg_tn hs4
    exact k1 (x' 5) L' i1 i2 i3 f0 f1 e0 e1 e2 e3 e4 p0 p1 p2 p3 p4 g1 g2 g3
def sg_sf_m3_Z : List sg_z := [(18, [(0, .inr (.inl [122])), (1, .inl (false, (1, .ofNat 1, .ofNat 0))), (3, .inl (false, (2, .ofNat 1, .ofNat 0))), (4, .inl (false, (3, .ofNat 1, .ofNat 0))), (5, .inl (false, (4, .ofNat 1, .ofNat 1)))], [], [(2, 0, (5, .ofNat 1, .ofNat 0), (0, .ofNat 0, .ofNat 0), (0, .ofNat 0, .ofNat 0))], [(1, [(.ofNat 0, .ofNat 15)]), (2, [(.ofNat 0, .ofNat 2147483647)]), (3, [(.ofNat 0, .ofNat 7)]), (4, [(.ofNat 0, .ofNat 7)]), (5, [(.ofNat 0, .ofNat 0)])], [], []),
  (18, [(0, .inr (.inl [122])), (1, .inl (false, (1, .ofNat 1, .ofNat 0))), (3, .inl (false, (2, .ofNat 1, .negSucc 0))), (4, .inl (false, (3, .ofNat 1, .ofNat 0))), (5, .inl (false, (4, .ofNat 1, .ofNat 1)))], [], [(2, 1, (2, .ofNat 1, .ofNat 0), (0, .ofNat 0, .ofNat 0), (0, .ofNat 0, .ofNat 0)), (2, 1, (5, .ofNat 1, .ofNat 0), (0, .ofNat 0, .ofNat 0), (0, .ofNat 0, .ofNat 0))], [(1, [(.ofNat 0, .ofNat 15)]), (2, [(.ofNat 1, .ofNat 2147483647)]), (3, [(.ofNat 0, .ofNat 7)]), (4, [(.ofNat 0, .ofNat 7)]), (5, [(.ofNat 1, .ofNat 1)])], [], []),
  (0, [], [.inl (false, (6, .ofNat 1, .ofNat 0))], [(2, 0, (2, .ofNat 1, .ofNat 0), (0, .ofNat 0, .ofNat 0), (0, .ofNat 0, .ofNat 0)), (2, 1, (5, .ofNat 1, .ofNat 0), (0, .ofNat 0, .ofNat 0), (0, .ofNat 0, .ofNat 0))], [(1, [(.ofNat 0, .ofNat 15)]), (2, [(.ofNat 0, .ofNat 0)]), (3, [(.ofNat 0, .ofNat 7)]), (4, [(.ofNat 0, .ofNat 7)]), (5, [(.ofNat 1, .ofNat 1)]), (6, [(.ofNat 0, .ofNat 63)])], [((3, .ofNat 8, .ofNat 0), (4, .ofNat 1, .ofNat 0), (6, .ofNat 1, .ofNat 0))], [])]
set_option maxRecDepth 1000000 in
theorem sg_sf_m3_g : sg_go [] [17] 3000 176 35 0 6 [(0, [(.ofNat 0, .ofNat 0)]), (1, [(.ofNat 0, .ofNat 15)]), (2, [(.ofNat 0, .ofNat 2147483647)]), (3, [(.ofNat 0, .ofNat 7)]), (4, [(.ofNat 0, .ofNat 7)]), (5, [(.ofNat 0, .ofNat 1)])] [] [] [] [(0, .inr (.inl [122])), (1, .inl (false, (1, .ofNat 1, .ofNat 0))), (3, .inl (false, (2, .ofNat 1, .ofNat 0))), (4, .inl (false, (3, .ofNat 1, .ofNat 0))), (5, .inl (false, (4, .ofNat 1, .ofNat 0)))] [.inl (false, (5, .ofNat 1, .ofNat 0))] [] sg_sf_m3_Z = true := by decide +kernel
set_option maxRecDepth 100000 in
theorem sg_sf_m3 {Q : Option Value × am_S → Prop} {d : Nat} {S : am_S} {L : am_L} {x1 x2 x3 x4 x5 : Int} {i1 : Int32} (hd : 0 ≤ d) (hP : ax_P0 none S) (l0 : lc L 0 122) (l1 : li L 1 x1) (l3 : li L 3 x2) (l4 : li L 4 x3) (l5 : li L 5 x4) (b1 : (0 ≤ x1 ∧ x1 ≤ 15)) (b2 : (0 ≤ x2 ∧ x2 ≤ 2147483647)) (b3 : (0 ≤ x3 ∧ x3 ≤ 7)) (b4 : (0 ≤ x4 ∧ x4 ≤ 7)) (b5 : (0 ≤ x5 ∧ x5 ≤ 1)) (s1 : i1.toInt = x5)
    (k0 : ∀ (L' : am_L), x5 = 0 → (0 ≤ x1 ∧ x1 ≤ 15) → (0 ≤ x2 ∧ x2 ≤ 2147483647) → (0 ≤ x3 ∧ x3 ≤ 7) → (0 ≤ x4 ∧ x4 ≤ 7) → (0 ≤ x5 ∧ x5 ≤ 0) → lc L' 0 122 → li L' 1 x1 → li L' 3 x2 → li L' 4 x3 → li L' 5 (x4 + 1) → am_V none d 176 17 L' ([]) S Q)
    (k1 : ∀ (L' : am_L), x5 ≠ 0 → x2 ≠ 0 → (0 ≤ x1 ∧ x1 ≤ 15) → (1 ≤ x2 ∧ x2 ≤ 2147483647) → (0 ≤ x3 ∧ x3 ≤ 7) → (0 ≤ x4 ∧ x4 ≤ 7) → (1 ≤ x5 ∧ x5 ≤ 1) → lc L' 0 122 → li L' 1 x1 → li L' 3 (x2 + (-1)) → li L' 4 x3 → li L' 5 (x4 + 1) → am_V none d 176 17 L' ([]) S Q)
    (k2 : ∀ (x6 : Int) (i1 : Int32), x5 ≠ 0 → x2 = 0 → (0 ≤ x1 ∧ x1 ≤ 15) → (0 ≤ x2 ∧ x2 ≤ 0) → (0 ≤ x3 ∧ x3 ≤ 7) → (0 ≤ x4 ∧ x4 ≤ 7) → (1 ≤ x5 ∧ x5 ≤ 1) → (0 ≤ x6 ∧ x6 ≤ 63) → (8 * x3 + 0) + x4 = x6 → i1.toInt = x6 → Q (some (.int i1), S)) : am_V none d 176 35 L ((.int i1) :: []) S Q := by
  refine sg_use sg_sf_m3_g hd hP (sg_xs [0, x1, x2, x3, x4, x5]) ⟨⟨Int.le_refl 0, Int.le_refl 0⟩, b1, b2, b3, b4, b5, trivial⟩ trivial trivial trivial ⟨l0, l1, l3, l4, l5, trivial⟩ ⟨⟨_, rfl, s1⟩, trivial⟩ ?_
  intro z hz x' L' st' S' hx hP' hW hL' hs' hJ hE' hT' hD'
  have q1 : x' 1 = x1 := hx 1 (by decide)
  subst q1
  have q2 : x' 2 = x2 := hx 2 (by decide)
  subst q2
  have q3 : x' 3 = x3 := hx 3 (by decide)
  subst q3
  have q4 : x' 4 = x4 := hx 4 (by decide)
  subst q4
  have q5 : x' 5 = x5 := hx 5 (by decide)
  subst q5
  have eS : S' = S := hW.1 rfl
  subst eS
  simp only [sg_sf_m3_Z, List.mem_cons, List.not_mem_nil, or_false] at hz
  rcases hz with rfl | rfl | rfl
  · obtain ⟨f0, hσ⟩ := hJ
    obtain ⟨e0, e1, e2, e3, e4, -⟩ := hE'
    obtain ⟨p0, p1, p2, p3, p4, -⟩ := hL'
    obtain rfl := sg_tn hs'
    exact k0 L' f0 e0 e1 e2 e3 e4 p0 p1 p2 p3 p4
  · obtain ⟨f0, f1, hσ⟩ := hJ
    obtain ⟨e0, e1, e2, e3, e4, -⟩ := hE'
    obtain ⟨p0, p1, p2, p3, p4, -⟩ := hL'
    obtain rfl := sg_tn hs'
    exact k1 L' f0 f1 e0 e1 e2 e3 e4 p0 p1 p2 p3 p4
  · obtain ⟨f0, f1, hσ⟩ := hJ
    obtain ⟨e0, e1, e2, e3, e4, e5, -⟩ := hE'
    obtain ⟨t0, -⟩ := hT'
    intro v hv
    subst hv
    cases v with
    | none => exact hs'.elim
    | some v1 =>
      obtain ⟨⟨i1, rfl, g1⟩, -⟩ := hs'
      exact k2 (x' 6) i1 f0 f1 e0 e1 e2 e3 e4 e5 t0 g1
def sg_ft_x0_Z : List sg_z := [(0, [], [.inl (false, (0, .ofNat 0, .negSucc 0))], [(2, 0, (0, .ofNat 0, .ofNat 0), (0, .ofNat 0, .ofNat 0), (0, .ofNat 0, .ofNat 0)), (2, 2, (1, .ofNat 1, .ofNat 0), (0, .ofNat 0, .ofNat 0), (0, .ofNat 0, .ofNat 0))], [(1, [(.negSucc 2147483647, .negSucc 0)])], [], []),
  (0, [], [.inl (false, (0, .ofNat 0, .negSucc 0))], [(2, 0, (0, .ofNat 0, .ofNat 0), (0, .ofNat 0, .ofNat 0), (0, .ofNat 0, .ofNat 0)), (2, 3, (1, .ofNat 1, .ofNat 0), (2, .ofNat 1, .ofNat 0), (0, .ofNat 0, .ofNat 0)), (0, 6, (0, .ofNat 0, .ofNat 0), (2, .ofNat 1, .ofNat 0), (0, .ofNat 0, .ofNat 0)), (2, 3, (1, .ofNat 1, .ofNat 0), (0, .ofNat 0, .ofNat 0), (0, .ofNat 0, .ofNat 0))], [(1, [(.ofNat 0, .ofNat 2147483647)]), (2, [(.ofNat 0, .ofNat 16)])], [], []),
  (14, [(0, .inr (.inl [0])), (1, .inl (false, (1, .ofNat 1, .ofNat 0)))], [.inl (false, (1, .ofNat 1, .ofNat 0)), .inr (.inl [0])], [(2, 1, (0, .ofNat 0, .ofNat 1), (0, .ofNat 0, .ofNat 0), (0, .ofNat 0, .ofNat 0)), (2, 2, (1, .ofNat 1, .ofNat 0), (2, .ofNat 1, .ofNat 0), (0, .ofNat 0, .ofNat 0)), (0, 6, (0, .ofNat 0, .ofNat 0), (2, .ofNat 1, .ofNat 0), (0, .ofNat 0, .ofNat 0)), (2, 3, (1, .ofNat 1, .ofNat 0), (0, .ofNat 0, .ofNat 0), (0, .ofNat 0, .ofNat 0))], [(1, [(.ofNat 0, .ofNat 15)]), (2, [(.ofNat 1, .ofNat 16)])], [], [])]
set_option maxRecDepth 1000000 in
theorem sg_ft_x0_g : sg_go [] [13] 3000 102 0 1 2 [(0, [(.ofNat 0, .ofNat 0)]), (1, [(.negSucc 2147483647, .ofNat 2147483647)])] [] [] [] [(0, .inr (.inl [0])), (1, .inl (false, (1, .ofNat 1, .ofNat 0)))] [] [] sg_ft_x0_Z = true := by decide +kernel
set_option maxRecDepth 100000 in
theorem sg_ft_x0 {Q : Option Value × am_S → Prop} {d : Nat} {S : am_S} {L : am_L} {x1 : Int} (hd : 1 ≤ d) (hP : ax_P0 none S) (l0 : lc L 0 0) (l1 : li L 1 x1) (b1 : ((-2147483648) ≤ x1 ∧ x1 ≤ 2147483647))
    (k0 : ∀ (i1 : Int32), x1 < 0 → ((-2147483648) ≤ x1 ∧ x1 ≤ (-1)) → i1.toInt = (-1) → Q (some (.int i1), S))
    (k1 : ∀ (x2 : Int) (i1 : Int32), 0 ≤ x1 → rd S 6 0 = x2 → x2 ≤ x1 → (0 ≤ x1 ∧ x1 ≤ 2147483647) → (0 ≤ x2 ∧ x2 ≤ 16) → i1.toInt = (-1) → Q (some (.int i1), S))
    (k2 : ∀ (x2 : Int) (L' : am_L) (i1 : Int32), 0 ≤ x1 → rd S 6 0 = x2 → x1 < x2 → (0 ≤ x1 ∧ x1 ≤ 15) → (1 ≤ x2 ∧ x2 ≤ 16) → lc L' 0 0 → li L' 1 x1 → i1.toInt = x1 → am_V none d 102 13 L' ((.int i1) :: (.ref 0) :: []) S Q) : am_V none d 102 0 L ([]) S Q := by
  refine sg_use sg_ft_x0_g hd hP (sg_xs [0, x1]) ⟨⟨Int.le_refl 0, Int.le_refl 0⟩, b1, trivial⟩ trivial trivial trivial ⟨l0, l1, trivial⟩ trivial ?_
  intro z hz x' L' st' S' hx hP' hW hL' hs' hJ hE' hT' hD'
  have q1 : x' 1 = x1 := hx 1 (by decide)
  subst q1
  have eS : S' = S := hW.1 rfl
  subst eS
  simp only [sg_ft_x0_Z, List.mem_cons, List.not_mem_nil, or_false] at hz
  rcases hz with rfl | rfl | rfl
  · obtain ⟨f0, -, hσ⟩ := hJ
    obtain ⟨e0, -⟩ := hE'
    intro v hv
    subst hv
    cases v with
    | none => exact hs'.elim
    | some v1 =>
      obtain ⟨⟨i1, rfl, g1⟩, -⟩ := hs'
      exact k0 i1 f0 e0 g1
  · obtain ⟨f0, f1, f2, -, hσ⟩ := hJ
    obtain ⟨e0, e1, -⟩ := hE'
    intro v hv
    subst hv
    cases v with
    | none => exact hs'.elim
    | some v1 =>
      obtain ⟨⟨i1, rfl, g1⟩, -⟩ := hs'
      exact k1 (x' 2) i1 f0 f1 f2 e0 e1 g1
  · obtain ⟨f0, f1, f2, -, hσ⟩ := hJ
    obtain ⟨e0, e1, -⟩ := hE'
    obtain ⟨p0, p1, -⟩ := hL'
    obtain ⟨v1, r1, rfl, ⟨i1, rfl, g1⟩, hs1⟩ := sg_tc hs'
    obtain ⟨v2, r2, rfl, rfl, hs2⟩ := sg_tc hs1
    obtain rfl := sg_tn hs2
    exact k2 (x' 2) L' i1 f0 f1 f2 e0 e1 p0 p1 g1
def sg_fi_x0_Z : List sg_z := [(0, [], [.inl (false, (0, .ofNat 0, .negSucc 0))], [(2, 0, (0, .ofNat 0, .ofNat 0), (0, .ofNat 0, .ofNat 0), (0, .ofNat 0, .ofNat 0)), (2, 2, (1, .ofNat 1, .ofNat 0), (0, .ofNat 0, .ofNat 0), (0, .ofNat 0, .ofNat 0))], [(1, [(.negSucc 2147483647, .negSucc 0)])], [], []),
  (0, [], [.inl (false, (0, .ofNat 0, .negSucc 0))], [(2, 0, (0, .ofNat 0, .ofNat 0), (0, .ofNat 0, .ofNat 0), (0, .ofNat 0, .ofNat 0)), (2, 3, (1, .ofNat 1, .ofNat 0), (3, .ofNat 1, .ofNat 0), (0, .ofNat 0, .ofNat 0)), (0, 6, (0, .ofNat 0, .ofNat 0), (3, .ofNat 1, .ofNat 0), (0, .ofNat 0, .ofNat 0)), (2, 3, (1, .ofNat 1, .ofNat 0), (0, .ofNat 0, .ofNat 0), (0, .ofNat 0, .ofNat 0))], [(1, [(.ofNat 0, .ofNat 2147483647)]), (3, [(.ofNat 0, .ofNat 16)])], [], []),
  (21, [(0, .inr (.inl [0])), (1, .inl (false, (1, .ofNat 1, .ofNat 0))), (2, .inl (false, (2, .ofNat 1, .ofNat 0)))], [.inl (false, (2, .ofNat 1, .ofNat 0)), .inl (false, (1, .ofNat 1, .ofNat 0)), .inr (.inl [0])], [(2, 3, (2, .ofNat 1, .ofNat 0), (0, .ofNat 0, .ofNat 0), (0, .ofNat 0, .ofNat 0)), (2, 1, (0, .ofNat 0, .ofNat 1), (0, .ofNat 0, .ofNat 0), (0, .ofNat 0, .ofNat 0)), (2, 2, (1, .ofNat 1, .ofNat 0), (3, .ofNat 1, .ofNat 0), (0, .ofNat 0, .ofNat 0)), (0, 6, (0, .ofNat 0, .ofNat 0), (3, .ofNat 1, .ofNat 0), (0, .ofNat 0, .ofNat 0)), (2, 3, (1, .ofNat 1, .ofNat 0), (0, .ofNat 0, .ofNat 0), (0, .ofNat 0, .ofNat 0))], [(1, [(.ofNat 0, .ofNat 15)]), (2, [(.ofNat 0, .ofNat 2147483647)]), (3, [(.ofNat 1, .ofNat 16)])], [], []),
  (0, [], [.inl (false, (0, .ofNat 0, .negSucc 0))], [(2, 2, (2, .ofNat 1, .ofNat 0), (0, .ofNat 0, .ofNat 0), (0, .ofNat 0, .ofNat 0)), (2, 1, (0, .ofNat 0, .ofNat 1), (0, .ofNat 0, .ofNat 0), (0, .ofNat 0, .ofNat 0)), (2, 2, (1, .ofNat 1, .ofNat 0), (3, .ofNat 1, .ofNat 0), (0, .ofNat 0, .ofNat 0)), (0, 6, (0, .ofNat 0, .ofNat 0), (3, .ofNat 1, .ofNat 0), (0, .ofNat 0, .ofNat 0)), (2, 3, (1, .ofNat 1, .ofNat 0), (0, .ofNat 0, .ofNat 0), (0, .ofNat 0, .ofNat 0))], [(1, [(.ofNat 0, .ofNat 15)]), (2, [(.negSucc 2147483647, .negSucc 0)]), (3, [(.ofNat 1, .ofNat 16)])], [], [])]
set_option maxRecDepth 1000000 in
theorem sg_fi_x0_g : sg_go [] [20] 3000 103 0 1 3 [(0, [(.ofNat 0, .ofNat 0)]), (1, [(.negSucc 2147483647, .ofNat 2147483647)]), (2, [(.negSucc 2147483647, .ofNat 2147483647)])] [] [] [] [(0, .inr (.inl [0])), (1, .inl (false, (1, .ofNat 1, .ofNat 0))), (2, .inl (false, (2, .ofNat 1, .ofNat 0)))] [] [] sg_fi_x0_Z = true := by decide +kernel
set_option maxRecDepth 100000 in
theorem sg_fi_x0 {Q : Option Value × am_S → Prop} {d : Nat} {S : am_S} {L : am_L} {x1 x2 : Int} (hd : 1 ≤ d) (hP : ax_P0 none S) (l0 : lc L 0 0) (l1 : li L 1 x1) (l2 : li L 2 x2) (b1 : ((-2147483648) ≤ x1 ∧ x1 ≤ 2147483647)) (b2 : ((-2147483648) ≤ x2 ∧ x2 ≤ 2147483647))
    (k0 : ∀ (i1 : Int32), x1 < 0 → ((-2147483648) ≤ x1 ∧ x1 ≤ (-1)) → i1.toInt = (-1) → Q (some (.int i1), S))
    (k1 : ∀ (x3 : Int) (i1 : Int32), 0 ≤ x1 → rd S 6 0 = x3 → x3 ≤ x1 → (0 ≤ x1 ∧ x1 ≤ 2147483647) → (0 ≤ x3 ∧ x3 ≤ 16) → i1.toInt = (-1) → Q (some (.int i1), S))
    (k2 : ∀ (x3 : Int) (L' : am_L) (i1 : Int32) (i2 : Int32), 0 ≤ x1 → rd S 6 0 = x3 → x1 < x3 → 0 ≤ x2 → (0 ≤ x1 ∧ x1 ≤ 15) → (0 ≤ x2 ∧ x2 ≤ 2147483647) → (1 ≤ x3 ∧ x3 ≤ 16) → lc L' 0 0 → li L' 1 x1 → li L' 2 x2 → i1.toInt = x2 → i2.toInt = x1 → am_V none d 103 20 L' ((.int i1) :: (.int i2) :: (.ref 0) :: []) S Q)
    (k3 : ∀ (x3 : Int) (i1 : Int32), 0 ≤ x1 → rd S 6 0 = x3 → x1 < x3 → x2 < 0 → (0 ≤ x1 ∧ x1 ≤ 15) → ((-2147483648) ≤ x2 ∧ x2 ≤ (-1)) → (1 ≤ x3 ∧ x3 ≤ 16) → i1.toInt = (-1) → Q (some (.int i1), S)) : am_V none d 103 0 L ([]) S Q := by
  refine sg_use sg_fi_x0_g hd hP (sg_xs [0, x1, x2]) ⟨⟨Int.le_refl 0, Int.le_refl 0⟩, b1, b2, trivial⟩ trivial trivial trivial ⟨l0, l1, l2, trivial⟩ trivial ?_
  intro z hz x' L' st' S' hx hP' hW hL' hs' hJ hE' hT' hD'
  have q1 : x' 1 = x1 := hx 1 (by decide)
  subst q1
  have q2 : x' 2 = x2 := hx 2 (by decide)
  subst q2
  have eS : S' = S := hW.1 rfl
  subst eS
  simp only [sg_fi_x0_Z, List.mem_cons, List.not_mem_nil, or_false] at hz
  rcases hz with rfl | rfl | rfl | rfl
  · obtain ⟨f0, -, hσ⟩ := hJ
    obtain ⟨e0, -⟩ := hE'
    intro v hv
    subst hv
    cases v with
    | none => exact hs'.elim
    | some v1 =>
      obtain ⟨⟨i1, rfl, g1⟩, -⟩ := hs'
      exact k0 i1 f0 e0 g1
  · obtain ⟨f0, f1, f2, -, hσ⟩ := hJ
    obtain ⟨e0, e1, -⟩ := hE'
    intro v hv
    subst hv
    cases v with
    | none => exact hs'.elim
    | some v1 =>
      obtain ⟨⟨i1, rfl, g1⟩, -⟩ := hs'
      exact k1 (x' 3) i1 f0 f1 f2 e0 e1 g1
  · obtain ⟨f0, f1, f2, -, f4, hσ⟩ := hJ
    obtain ⟨e0, e1, e2, -⟩ := hE'
    obtain ⟨p0, p1, p2, -⟩ := hL'
    obtain ⟨v1, r1, rfl, ⟨i1, rfl, g1⟩, hs1⟩ := sg_tc hs'
    obtain ⟨v2, r2, rfl, ⟨i2, rfl, g2⟩, hs2⟩ := sg_tc hs1
    obtain ⟨v3, r3, rfl, rfl, hs3⟩ := sg_tc hs2
    obtain rfl := sg_tn hs3
    exact k2 (x' 3) L' i1 i2 f0 f1 f2 f4 e0 e1 e2 p0 p1 p2 g1 g2
  · obtain ⟨f0, f1, f2, -, f4, hσ⟩ := hJ
    obtain ⟨e0, e1, e2, -⟩ := hE'
    intro v hv
    subst hv
    cases v with
    | none => exact hs'.elim
    | some v1 =>
      obtain ⟨⟨i1, rfl, g1⟩, -⟩ := hs'
      exact k3 (x' 3) i1 f0 f1 f2 f4 e0 e1 e2 g1
def sg_fi_m0_Z : List sg_z := [(0, [], [.inl (false, (0, .ofNat 0, .negSucc 0))], [(2, 0, (0, .ofNat 0, .ofNat 0), (0, .ofNat 0, .ofNat 0), (0, .ofNat 0, .ofNat 0)), (2, 2, (1, .ofNat 1, .ofNat 0), (0, .ofNat 0, .ofNat 0), (0, .ofNat 0, .ofNat 0)), (0, 122, (0, .ofNat 0, .ofNat 5), (3, .ofNat 1, .ofNat 0), (0, .ofNat 0, .ofNat 0))], [(1, [(.negSucc 2147483647, .negSucc 0)]), (3, [(.ofNat 0, .ofNat 16)])], [], []),
  (0, [], [.inl (false, (0, .ofNat 0, .negSucc 0))], [(2, 0, (0, .ofNat 0, .ofNat 0), (0, .ofNat 0, .ofNat 0), (0, .ofNat 0, .ofNat 0)), (2, 4, (1, .ofNat 1, .ofNat 0), (3, .ofNat 1, .negSucc 0), (0, .ofNat 0, .ofNat 0)), (2, 3, (1, .ofNat 1, .ofNat 0), (0, .ofNat 0, .ofNat 0), (0, .ofNat 0, .ofNat 0)), (0, 122, (0, .ofNat 0, .ofNat 5), (3, .ofNat 1, .ofNat 0), (0, .ofNat 0, .ofNat 0))], [(1, [(.ofNat 0, .ofNat 2147483647)]), (3, [(.ofNat 0, .ofNat 16)])], [], []),
  (0, [], [.inl (false, (0, .ofNat 0, .negSucc 0))], [(2, 2, (2, .ofNat 1, .ofNat 0), (0, .ofNat 0, .ofNat 0), (0, .ofNat 0, .ofNat 0)), (2, 1, (0, .ofNat 0, .ofNat 1), (0, .ofNat 0, .ofNat 0), (0, .ofNat 0, .ofNat 0)), (2, 5, (1, .ofNat 1, .ofNat 0), (3, .ofNat 1, .negSucc 0), (0, .ofNat 0, .ofNat 0)), (2, 3, (1, .ofNat 1, .ofNat 0), (0, .ofNat 0, .ofNat 0), (0, .ofNat 0, .ofNat 0)), (0, 122, (0, .ofNat 0, .ofNat 5), (3, .ofNat 1, .ofNat 0), (0, .ofNat 0, .ofNat 0))], [(1, [(.ofNat 0, .ofNat 15)]), (2, [(.negSucc 2147483647, .negSucc 0)]), (3, [(.ofNat 1, .ofNat 16)])], [], []),
  (16, [(0, .inr (.inl [122])), (1, .inl (false, (1, .ofNat 1, .ofNat 0))), (2, .inl (false, (2, .ofNat 1, .ofNat 0)))], [.inl (false, (2, .ofNat 1, .ofNat 0)), .inl (false, (1, .ofNat 1, .ofNat 0)), .inr (.inl [122])], [(2, 3, (2, .ofNat 1, .ofNat 0), (0, .ofNat 0, .ofNat 0), (0, .ofNat 0, .ofNat 0)), (2, 1, (0, .ofNat 0, .ofNat 1), (0, .ofNat 0, .ofNat 0), (0, .ofNat 0, .ofNat 0)), (2, 5, (1, .ofNat 1, .ofNat 0), (3, .ofNat 1, .negSucc 0), (0, .ofNat 0, .ofNat 0)), (2, 3, (1, .ofNat 1, .ofNat 0), (0, .ofNat 0, .ofNat 0), (0, .ofNat 0, .ofNat 0)), (0, 122, (0, .ofNat 0, .ofNat 5), (3, .ofNat 1, .ofNat 0), (0, .ofNat 0, .ofNat 0))], [(1, [(.ofNat 0, .ofNat 15)]), (2, [(.ofNat 0, .ofNat 2147483647)]), (3, [(.ofNat 1, .ofNat 16)])], [], [])]
set_option maxRecDepth 1000000 in
theorem sg_fi_m0_g : sg_go [] [15] 3000 177 0 2 3 [(0, [(.ofNat 0, .ofNat 0)]), (1, [(.negSucc 2147483647, .ofNat 2147483647)]), (2, [(.negSucc 2147483647, .ofNat 2147483647)])] [] [] [] [(0, .inr (.inl [122])), (1, .inl (false, (1, .ofNat 1, .ofNat 0))), (2, .inl (false, (2, .ofNat 1, .ofNat 0)))] [] [] sg_fi_m0_Z = true := by decide +kernel
set_option maxRecDepth 100000 in
theorem sg_fi_m0 {Q : Option Value × am_S → Prop} {d : Nat} {S : am_S} {L : am_L} {x1 x2 : Int} (hd : 2 ≤ d) (hP : ax_P0 none S) (l0 : lc L 0 122) (l1 : li L 1 x1) (l2 : li L 2 x2) (b1 : ((-2147483648) ≤ x1 ∧ x1 ≤ 2147483647)) (b2 : ((-2147483648) ≤ x2 ∧ x2 ≤ 2147483647))
    (k0 : ∀ (x3 : Int) (i1 : Int32), rd S 122 5 = x3 → x1 < 0 → ((-2147483648) ≤ x1 ∧ x1 ≤ (-1)) → (0 ≤ x3 ∧ x3 ≤ 16) → i1.toInt = (-1) → Q (some (.int i1), S))
    (k1 : ∀ (x3 : Int) (i1 : Int32), rd S 122 5 = x3 → 0 ≤ x1 → x3 + (-1) < x1 → (0 ≤ x1 ∧ x1 ≤ 2147483647) → (0 ≤ x3 ∧ x3 ≤ 16) → i1.toInt = (-1) → Q (some (.int i1), S))
    (k2 : ∀ (x3 : Int) (i1 : Int32), rd S 122 5 = x3 → 0 ≤ x1 → x1 ≤ x3 + (-1) → x2 < 0 → (0 ≤ x1 ∧ x1 ≤ 15) → ((-2147483648) ≤ x2 ∧ x2 ≤ (-1)) → (1 ≤ x3 ∧ x3 ≤ 16) → i1.toInt = (-1) → Q (some (.int i1), S))
    (k3 : ∀ (x3 : Int) (L' : am_L) (i1 : Int32) (i2 : Int32), rd S 122 5 = x3 → 0 ≤ x1 → x1 ≤ x3 + (-1) → 0 ≤ x2 → (0 ≤ x1 ∧ x1 ≤ 15) → (0 ≤ x2 ∧ x2 ≤ 2147483647) → (1 ≤ x3 ∧ x3 ≤ 16) → lc L' 0 122 → li L' 1 x1 → li L' 2 x2 → i1.toInt = x2 → i2.toInt = x1 → am_V none d 177 15 L' ((.int i1) :: (.int i2) :: (.ref 122) :: []) S Q) : am_V none d 177 0 L ([]) S Q := by
  refine sg_use sg_fi_m0_g hd hP (sg_xs [0, x1, x2]) ⟨⟨Int.le_refl 0, Int.le_refl 0⟩, b1, b2, trivial⟩ trivial trivial trivial ⟨l0, l1, l2, trivial⟩ trivial ?_
  intro z hz x' L' st' S' hx hP' hW hL' hs' hJ hE' hT' hD'
  have q1 : x' 1 = x1 := hx 1 (by decide)
  subst q1
  have q2 : x' 2 = x2 := hx 2 (by decide)
  subst q2
  have eS : S' = S := hW.1 rfl
  subst eS
  simp only [sg_fi_m0_Z, List.mem_cons, List.not_mem_nil, or_false] at hz
  rcases hz with rfl | rfl | rfl | rfl
  · obtain ⟨f0, f1, -, hσ⟩ := hJ
    obtain ⟨e0, e1, -⟩ := hE'
    intro v hv
    subst hv
    cases v with
    | none => exact hs'.elim
    | some v1 =>
      obtain ⟨⟨i1, rfl, g1⟩, -⟩ := hs'
      exact k0 (x' 3) i1 f0 f1 e0 e1 g1
  · obtain ⟨f0, f1, f2, -, hσ⟩ := hJ
    obtain ⟨e0, e1, -⟩ := hE'
    intro v hv
    subst hv
    cases v with
    | none => exact hs'.elim
    | some v1 =>
      obtain ⟨⟨i1, rfl, g1⟩, -⟩ := hs'
      exact k1 (x' 3) i1 f0 f1 f2 e0 e1 g1
  · obtain ⟨f0, f1, f2, -, f4, hσ⟩ := hJ
    obtain ⟨e0, e1, e2, -⟩ := hE'
    intro v hv
    subst hv
    cases v with
    | none => exact hs'.elim
    | some v1 =>
      obtain ⟨⟨i1, rfl, g1⟩, -⟩ := hs'
      exact k2 (x' 3) i1 f0 f1 f2 f4 e0 e1 e2 g1
  · obtain ⟨f0, f1, f2, -, f4, hσ⟩ := hJ
    obtain ⟨e0, e1, e2, -⟩ := hE'
    obtain ⟨p0, p1, p2, -⟩ := hL'
    obtain ⟨v1, r1, rfl, ⟨i1, rfl, g1⟩, hs1⟩ := sg_tc hs'
    obtain ⟨v2, r2, rfl, ⟨i2, rfl, g2⟩, hs2⟩ := sg_tc hs1
    obtain ⟨v3, r3, rfl, rfl, hs3⟩ := sg_tc hs2
    obtain rfl := sg_tn hs3
    exact k3 (x' 3) L' i1 i2 f0 f1 f2 f4 e0 e1 e2 p0 p1 p2 g1 g2
def sg_ga_x0_Z : List sg_z := [(13, [(0, .inr (.inl [0]))], [.inr (.inl [6]), .inr (.inl [1]), .inr (.inl [71])], [], [], [], [])]
set_option maxRecDepth 1000000 in
theorem sg_ga_x0_g : sg_go [] [12] 3000 106 0 0 1 [(0, [(.ofNat 0, .ofNat 0)])] [] [] [] [(0, .inr (.inl [0]))] [] [] sg_ga_x0_Z = true := by decide +kernel
set_option maxRecDepth 100000 in
theorem sg_ga_x0 {Q : Option Value × am_S → Prop} {d : Nat} {S : am_S} {L : am_L} (hd : 0 ≤ d) (hP : ax_P0 none S) (l0 : lc L 0 0)
    (k0 : ∀ (L' : am_L), lc L' 0 0 → am_V none d 106 12 L' ((.ref 6) :: (.ref 1) :: (.ref 71) :: []) S Q) : am_V none d 106 0 L ([]) S Q := by
  refine sg_use sg_ga_x0_g hd hP (sg_xs [0]) ⟨⟨Int.le_refl 0, Int.le_refl 0⟩, trivial⟩ trivial trivial trivial ⟨l0, trivial⟩ trivial ?_
  intro z hz x' L' st' S' hx hP' hW hL' hs' hJ hE' hT' hD'
  have eS : S' = S := hW.1 rfl
  subst eS
  simp only [sg_ga_x0_Z, List.mem_cons, List.not_mem_nil, or_false] at hz
  rcases hz with rfl
  · have hσ := hJ
    obtain ⟨p0, -⟩ := hL'
    obtain ⟨v1, r1, rfl, rfl, hs1⟩ := sg_tc hs'
    obtain ⟨v2, r2, rfl, rfl, hs2⟩ := sg_tc hs1
    obtain ⟨v3, r3, rfl, rfl, hs3⟩ := sg_tc hs2
    obtain rfl := sg_tn hs3
    exact k0 L' p0
def sg_ga_x01_Z : List sg_z := [(20, [(0, .inr (.inl [0])), (1, .inl (false, (0, .ofNat 0, .ofNat 0))), (2, .inl (false, (0, .ofNat 0, .ofNat 0)))], [], [], [], [], [])]
set_option maxRecDepth 1000000 in
theorem sg_ga_x01_g : sg_go [] [19] 3000 106 15 0 1 [(0, [(.ofNat 0, .ofNat 0)])] [] [] [] [(0, .inr (.inl [0]))] [] [] sg_ga_x01_Z = true := by decide +kernel
set_option maxRecDepth 100000 in
theorem sg_ga_x01 {Q : Option Value × am_S → Prop} {d : Nat} {S : am_S} {L : am_L} (hd : 0 ≤ d) (hP : ax_P0 none S) (l0 : lc L 0 0)
    (k0 : ∀ (L' : am_L), lc L' 0 0 → li L' 1 0 → li L' 2 0 → am_V none d 106 19 L' ([]) S Q) : am_V none d 106 15 L ([]) S Q := by
  refine sg_use sg_ga_x01_g hd hP (sg_xs [0]) ⟨⟨Int.le_refl 0, Int.le_refl 0⟩, trivial⟩ trivial trivial trivial ⟨l0, trivial⟩ trivial ?_
  intro z hz x' L' st' S' hx hP' hW hL' hs' hJ hE' hT' hD'
  have eS : S' = S := hW.1 rfl
  subst eS
  simp only [sg_ga_x01_Z, List.mem_cons, List.not_mem_nil, or_false] at hz
  rcases hz with rfl
  · have hσ := hJ
    obtain ⟨p0, p1, p2, -⟩ := hL'
    obtain rfl := sg_tn hs'
    exact k0 L' p0 p1 p2
def sg_ga_m0_Z : List sg_z := [(2, [(0, .inr (.inl [122]))], [.inr (.inl [122])], [], [], [], [])]
set_option maxRecDepth 1000000 in
theorem sg_ga_m0_g : sg_go [] [1] 3000 180 0 0 1 [(0, [(.ofNat 0, .ofNat 0)])] [] [] [] [(0, .inr (.inl [122]))] [] [] sg_ga_m0_Z = true := by decide +kernel
set_option maxRecDepth 100000 in
theorem sg_ga_m0 {Q : Option Value × am_S → Prop} {d : Nat} {S : am_S} {L : am_L} (hd : 0 ≤ d) (hP : ax_P0 none S) (l0 : lc L 0 122)
    (k0 : ∀ (L' : am_L), lc L' 0 122 → am_V none d 180 1 L' ((.ref 122) :: []) S Q) : am_V none d 180 0 L ([]) S Q := by
  refine sg_use sg_ga_m0_g hd hP (sg_xs [0]) ⟨⟨Int.le_refl 0, Int.le_refl 0⟩, trivial⟩ trivial trivial trivial ⟨l0, trivial⟩ trivial ?_
  intro z hz x' L' st' S' hx hP' hW hL' hs' hJ hE' hT' hD'
  have eS : S' = S := hW.1 rfl
  subst eS
  simp only [sg_ga_m0_Z, List.mem_cons, List.not_mem_nil, or_false] at hz
  rcases hz with rfl
  · have hσ := hJ
    obtain ⟨p0, -⟩ := hL'
    obtain ⟨v1, r1, rfl, rfl, hs1⟩ := sg_tc hs'
    obtain rfl := sg_tn hs1
    exact k0 L' p0
def sg_ga_m01_Z : List sg_z := [(9, [(0, .inr (.inl [122])), (1, .inl (false, (0, .ofNat 0, .ofNat 0))), (2, .inl (false, (0, .ofNat 0, .ofNat 0)))], [], [], [], [], [])]
set_option maxRecDepth 1000000 in
theorem sg_ga_m01_g : sg_go [] [8] 3000 180 4 0 1 [(0, [(.ofNat 0, .ofNat 0)])] [] [] [] [(0, .inr (.inl [122]))] [] [] sg_ga_m01_Z = true := by decide +kernel
set_option maxRecDepth 100000 in
theorem sg_ga_m01 {Q : Option Value × am_S → Prop} {d : Nat} {S : am_S} {L : am_L} (hd : 0 ≤ d) (hP : ax_P0 none S) (l0 : lc L 0 122)
    (k0 : ∀ (L' : am_L), lc L' 0 122 → li L' 1 0 → li L' 2 0 → am_V none d 180 8 L' ([]) S Q) : am_V none d 180 4 L ([]) S Q := by
  refine sg_use sg_ga_m01_g hd hP (sg_xs [0]) ⟨⟨Int.le_refl 0, Int.le_refl 0⟩, trivial⟩ trivial trivial trivial ⟨l0, trivial⟩ trivial ?_
  intro z hz x' L' st' S' hx hP' hW hL' hs' hJ hE' hT' hD'
  have eS : S' = S := hW.1 rfl
  subst eS
  simp only [sg_ga_m01_Z, List.mem_cons, List.not_mem_nil, or_false] at hz
  rcases hz with rfl
  · have hσ := hJ
    obtain ⟨p0, p1, p2, -⟩ := hL'
    obtain rfl := sg_tn hs'
    exact k0 L' p0 p1 p2
def sg_ga_m1_Z : List sg_z := [(0, [], [.inl (false, (1, .ofNat 1, .ofNat 0))], [(2, 3, (2, .ofNat 1, .ofNat 0), (3, .ofNat 1, .ofNat 0), (0, .ofNat 0, .ofNat 0)), (0, 122, (0, .ofNat 0, .ofNat 5), (3, .ofNat 1, .ofNat 0), (0, .ofNat 0, .ofNat 0))], [(1, [(.ofNat 0, .ofNat 16)]), (2, [(.ofNat 0, .ofNat 16)]), (3, [(.ofNat 0, .ofNat 16)])], [], []),
  (28, [(0, .inr (.inl [122])), (1, .inl (false, (1, .ofNat 1, .ofNat 0))), (2, .inl (false, (2, .ofNat 1, .ofNat 0)))], [.inl (false, (0, .ofNat 0, .ofNat 0)), .inl (false, (2, .ofNat 1, .ofNat 0)), .inr (.inl [122])], [(2, 0, (0, .ofNat 0, .ofNat 0), (0, .ofNat 0, .ofNat 0), (0, .ofNat 0, .ofNat 0)), (2, 0, (4, .ofNat 1, .ofNat 0), (0, .ofNat 0, .negSucc 3), (0, .ofNat 0, .ofNat 0)), (0, 130, (2, .ofNat 1, .ofNat 0), (4, .ofNat 1, .ofNat 0), (0, .ofNat 0, .ofNat 0)), (2, 2, (2, .ofNat 1, .ofNat 0), (3, .ofNat 1, .ofNat 0), (0, .ofNat 0, .ofNat 0)), (0, 122, (0, .ofNat 0, .ofNat 5), (3, .ofNat 1, .ofNat 0), (0, .ofNat 0, .ofNat 0))], [(1, [(.ofNat 0, .ofNat 16)]), (2, [(.ofNat 0, .ofNat 15)]), (3, [(.ofNat 1, .ofNat 16)]), (4, [(.negSucc 3, .negSucc 3)])], [], []),
  (9, [(0, .inr (.inl [122])), (1, .inl (false, (1, .ofNat 1, .ofNat 0))), (2, .inl (false, (2, .ofNat 1, .ofNat 1)))], [], [(2, 1, (0, .ofNat 0, .ofNat 1), (0, .ofNat 0, .ofNat 0), (0, .ofNat 0, .ofNat 0)), (2, 1, (4, .ofNat 1, .ofNat 0), (0, .ofNat 0, .negSucc 3), (0, .ofNat 0, .ofNat 0)), (0, 130, (2, .ofNat 1, .ofNat 0), (4, .ofNat 1, .ofNat 0), (0, .ofNat 0, .ofNat 0)), (2, 2, (2, .ofNat 1, .ofNat 0), (3, .ofNat 1, .ofNat 0), (0, .ofNat 0, .ofNat 0)), (0, 122, (0, .ofNat 0, .ofNat 5), (3, .ofNat 1, .ofNat 0), (0, .ofNat 0, .ofNat 0))], [(1, [(.ofNat 0, .ofNat 16)]), (2, [(.ofNat 0, .ofNat 15)]), (3, [(.ofNat 1, .ofNat 16)]), (4, [(.ofNat 0, .ofNat 7)])], [], [])]
set_option maxRecDepth 1000000 in
theorem sg_ga_m1_g : sg_go [] [27, 8] 3000 180 8 1 3 [(0, [(.ofNat 0, .ofNat 0)]), (1, [(.ofNat 0, .ofNat 16)]), (2, [(.ofNat 0, .ofNat 16)])] [] [] [] [(0, .inr (.inl [122])), (1, .inl (false, (1, .ofNat 1, .ofNat 0))), (2, .inl (false, (2, .ofNat 1, .ofNat 0)))] [] [] sg_ga_m1_Z = true := by decide +kernel
set_option maxRecDepth 100000 in
theorem sg_ga_m1 {Q : Option Value × am_S → Prop} {d : Nat} {S : am_S} {L : am_L} {x1 x2 : Int} (hd : 1 ≤ d) (hP : ax_P0 none S) (l0 : lc L 0 122) (l1 : li L 1 x1) (l2 : li L 2 x2) (b1 : (0 ≤ x1 ∧ x1 ≤ 16)) (b2 : (0 ≤ x2 ∧ x2 ≤ 16))
    (k0 : ∀ (x3 : Int) (i1 : Int32), rd S 122 5 = x3 → x3 ≤ x2 → (0 ≤ x1 ∧ x1 ≤ 16) → (0 ≤ x2 ∧ x2 ≤ 16) → (0 ≤ x3 ∧ x3 ≤ 16) → i1.toInt = x1 → Q (some (.int i1), S))
    (k1 : ∀ (x3 x4 : Int) (L' : am_L) (i1 : Int32) (i2 : Int32), rd S 122 5 = x3 → x2 < x3 → rd S 130 x2 = x4 → x4 = (-4) → (0 ≤ x1 ∧ x1 ≤ 16) → (0 ≤ x2 ∧ x2 ≤ 15) → (1 ≤ x3 ∧ x3 ≤ 16) → ((-4) ≤ x4 ∧ x4 ≤ (-4)) → lc L' 0 122 → li L' 1 x1 → li L' 2 x2 → i1.toInt = 0 → i2.toInt = x2 → am_V none d 180 27 L' ((.int i1) :: (.int i2) :: (.ref 122) :: []) S Q)
    (k2 : ∀ (x3 x4 : Int) (L' : am_L), rd S 122 5 = x3 → x2 < x3 → rd S 130 x2 = x4 → x4 ≠ (-4) → (0 ≤ x1 ∧ x1 ≤ 16) → (0 ≤ x2 ∧ x2 ≤ 15) → (1 ≤ x3 ∧ x3 ≤ 16) → (0 ≤ x4 ∧ x4 ≤ 7) → lc L' 0 122 → li L' 1 x1 → li L' 2 (x2 + 1) → am_V none d 180 8 L' ([]) S Q) : am_V none d 180 8 L ([]) S Q := by
  refine sg_use sg_ga_m1_g hd hP (sg_xs [0, x1, x2]) ⟨⟨Int.le_refl 0, Int.le_refl 0⟩, b1, b2, trivial⟩ trivial trivial trivial ⟨l0, l1, l2, trivial⟩ trivial ?_
  intro z hz x' L' st' S' hx hP' hW hL' hs' hJ hE' hT' hD'
  have q1 : x' 1 = x1 := hx 1 (by decide)
  subst q1
  have q2 : x' 2 = x2 := hx 2 (by decide)
  subst q2
  have eS : S' = S := hW.1 rfl
  subst eS
  simp only [sg_ga_m1_Z, List.mem_cons, List.not_mem_nil, or_false] at hz
  rcases hz with rfl | rfl | rfl
  · obtain ⟨f0, f1, hσ⟩ := hJ
    obtain ⟨e0, e1, e2, -⟩ := hE'
    intro v hv
    subst hv
    cases v with
    | none => exact hs'.elim
    | some v1 =>
      obtain ⟨⟨i1, rfl, g1⟩, -⟩ := hs'
      exact k0 (x' 3) i1 f0 f1 e0 e1 e2 g1
  · obtain ⟨f0, f1, f2, f3, -, hσ⟩ := hJ
    obtain ⟨e0, e1, e2, e3, -⟩ := hE'
    obtain ⟨p0, p1, p2, -⟩ := hL'
    obtain ⟨v1, r1, rfl, ⟨i1, rfl, g1⟩, hs1⟩ := sg_tc hs'
    obtain ⟨v2, r2, rfl, ⟨i2, rfl, g2⟩, hs2⟩ := sg_tc hs1
    obtain ⟨v3, r3, rfl, rfl, hs3⟩ := sg_tc hs2
    obtain rfl := sg_tn hs3
    exact k1 (x' 3) (x' 4) L' i1 i2 f0 f1 f2 f3 e0 e1 e2 e3 p0 p1 p2 g1 g2
  · obtain ⟨f0, f1, f2, f3, -, hσ⟩ := hJ
    obtain ⟨e0, e1, e2, e3, -⟩ := hE'
    obtain ⟨p0, p1, p2, -⟩ := hL'
    obtain rfl := sg_tn hs'
    exact k2 (x' 3) (x' 4) L' f0 f1 f2 f3 e0 e1 e2 e3 p0 p1 p2
def sg_ga_m2_Z : List sg_z := [(9, [(0, .inr (.inl [122])), (1, .inl (false, (1, .ofNat 1, .ofNat 0))), (2, .inl (false, (2, .ofNat 1, .ofNat 1)))], [], [(2, 0, (3, .ofNat 1, .ofNat 0), (0, .ofNat 0, .negSucc 3), (0, .ofNat 0, .ofNat 0))], [(1, [(.ofNat 0, .ofNat 16)]), (2, [(.ofNat 0, .ofNat 15)]), (3, [(.negSucc 3, .negSucc 3)])], [], []),
  (39, [(0, .inr (.inl [122])), (1, .inl (false, (1, .ofNat 1, .ofNat 0))), (2, .inl (false, (2, .ofNat 1, .ofNat 0)))], [.inl (false, (0, .ofNat 0, .ofNat 1)), .inl (false, (2, .ofNat 1, .ofNat 0)), .inr (.inl [122])], [(2, 1, (3, .ofNat 1, .ofNat 0), (0, .ofNat 0, .negSucc 3), (0, .ofNat 0, .ofNat 0))], [(1, [(.ofNat 0, .ofNat 16)]), (2, [(.ofNat 0, .ofNat 15)]), (3, [(.negSucc 2147483647, .negSucc 4), (.negSucc 2, .ofNat 2147483647)])], [], [])]
set_option maxRecDepth 1000000 in
theorem sg_ga_m2_g : sg_go [] [38, 8] 3000 180 30 0 4 [(0, [(.ofNat 0, .ofNat 0)]), (1, [(.ofNat 0, .ofNat 16)]), (2, [(.ofNat 0, .ofNat 15)]), (3, [(.negSucc 2147483647, .ofNat 2147483647)])] [] [] [] [(0, .inr (.inl [122])), (1, .inl (false, (1, .ofNat 1, .ofNat 0))), (2, .inl (false, (2, .ofNat 1, .ofNat 0)))] [.inl (false, (3, .ofNat 1, .ofNat 0))] [] sg_ga_m2_Z = true := by decide +kernel
set_option maxRecDepth 100000 in
theorem sg_ga_m2 {Q : Option Value × am_S → Prop} {d : Nat} {S : am_S} {L : am_L} {x1 x2 x3 : Int} {i1 : Int32} (hd : 0 ≤ d) (hP : ax_P0 none S) (l0 : lc L 0 122) (l1 : li L 1 x1) (l2 : li L 2 x2) (b1 : (0 ≤ x1 ∧ x1 ≤ 16)) (b2 : (0 ≤ x2 ∧ x2 ≤ 15)) (b3 : ((-2147483648) ≤ x3 ∧ x3 ≤ 2147483647)) (s1 : i1.toInt = x3)
    (k0 : ∀ (L' : am_L), x3 = (-4) → (0 ≤ x1 ∧ x1 ≤ 16) → (0 ≤ x2 ∧ x2 ≤ 15) → ((-4) ≤ x3 ∧ x3 ≤ (-4)) → lc L' 0 122 → li L' 1 x1 → li L' 2 (x2 + 1) → am_V none d 180 8 L' ([]) S Q)
    (k1 : ∀ (L' : am_L) (i1 : Int32) (i2 : Int32), x3 ≠ (-4) → (0 ≤ x1 ∧ x1 ≤ 16) → (0 ≤ x2 ∧ x2 ≤ 15) → ((-2147483648) ≤ x3 ∧ x3 ≤ (-5)) ∨ ((-3) ≤ x3 ∧ x3 ≤ 2147483647) → lc L' 0 122 → li L' 1 x1 → li L' 2 x2 → i1.toInt = 1 → i2.toInt = x2 → am_V none d 180 38 L' ((.int i1) :: (.int i2) :: (.ref 122) :: []) S Q) : am_V none d 180 30 L ((.int i1) :: []) S Q := by
  refine sg_use sg_ga_m2_g hd hP (sg_xs [0, x1, x2, x3]) ⟨⟨Int.le_refl 0, Int.le_refl 0⟩, b1, b2, b3, trivial⟩ trivial trivial trivial ⟨l0, l1, l2, trivial⟩ ⟨⟨_, rfl, s1⟩, trivial⟩ ?_
  intro z hz x' L' st' S' hx hP' hW hL' hs' hJ hE' hT' hD'
  have q1 : x' 1 = x1 := hx 1 (by decide)
  subst q1
  have q2 : x' 2 = x2 := hx 2 (by decide)
  subst q2
  have q3 : x' 3 = x3 := hx 3 (by decide)
  subst q3
  have eS : S' = S := hW.1 rfl
  subst eS
  simp only [sg_ga_m2_Z, List.mem_cons, List.not_mem_nil, or_false] at hz
  rcases hz with rfl | rfl
  · obtain ⟨f0, hσ⟩ := hJ
    obtain ⟨e0, e1, e2, -⟩ := hE'
    obtain ⟨p0, p1, p2, -⟩ := hL'
    obtain rfl := sg_tn hs'
    exact k0 L' f0 e0 e1 e2 p0 p1 p2
  · obtain ⟨f0, hσ⟩ := hJ
    obtain ⟨e0, e1, e2, -⟩ := hE'
    obtain ⟨p0, p1, p2, -⟩ := hL'
    obtain ⟨v1, r1, rfl, ⟨i1, rfl, g1⟩, hs1⟩ := sg_tc hs'
    obtain ⟨v2, r2, rfl, ⟨i2, rfl, g2⟩, hs2⟩ := sg_tc hs1
    obtain ⟨v3, r3, rfl, rfl, hs3⟩ := sg_tc hs2
    obtain rfl := sg_tn hs3
    exact k1 L' i1 i2 f0 e0 e1 e2 p0 p1 p2 g1 g2
def sg_ga_m3_Z : List sg_z := [(9, [(0, .inr (.inl [122])), (1, .inl (false, (1, .ofNat 1, .ofNat 0))), (2, .inl (false, (2, .ofNat 1, .ofNat 1)))], [], [(2, 1, (3, .ofNat 1, .ofNat 0), (0, .ofNat 0, .negSucc 3), (0, .ofNat 0, .ofNat 0))], [(1, [(.ofNat 0, .ofNat 16)]), (2, [(.ofNat 0, .ofNat 15)]), (3, [(.negSucc 2147483647, .negSucc 4), (.negSucc 2, .ofNat 2147483647)])], [], []),
  (50, [(0, .inr (.inl [122])), (1, .inl (false, (1, .ofNat 1, .ofNat 0))), (2, .inl (false, (2, .ofNat 1, .ofNat 0)))], [.inl (false, (0, .ofNat 0, .ofNat 0)), .inl (false, (2, .ofNat 1, .ofNat 0)), .inr (.inl [122])], [(2, 0, (3, .ofNat 1, .ofNat 0), (0, .ofNat 0, .negSucc 3), (0, .ofNat 0, .ofNat 0))], [(1, [(.ofNat 0, .ofNat 16)]), (2, [(.ofNat 0, .ofNat 15)]), (3, [(.negSucc 3, .negSucc 3)])], [], [])]
set_option maxRecDepth 1000000 in
theorem sg_ga_m3_g : sg_go [] [49, 8] 3000 180 41 0 4 [(0, [(.ofNat 0, .ofNat 0)]), (1, [(.ofNat 0, .ofNat 16)]), (2, [(.ofNat 0, .ofNat 15)]), (3, [(.negSucc 2147483647, .ofNat 2147483647)])] [] [] [] [(0, .inr (.inl [122])), (1, .inl (false, (1, .ofNat 1, .ofNat 0))), (2, .inl (false, (2, .ofNat 1, .ofNat 0)))] [.inl (false, (3, .ofNat 1, .ofNat 0))] [] sg_ga_m3_Z = true := by decide +kernel
set_option maxRecDepth 100000 in
theorem sg_ga_m3 {Q : Option Value × am_S → Prop} {d : Nat} {S : am_S} {L : am_L} {x1 x2 x3 : Int} {i1 : Int32} (hd : 0 ≤ d) (hP : ax_P0 none S) (l0 : lc L 0 122) (l1 : li L 1 x1) (l2 : li L 2 x2) (b1 : (0 ≤ x1 ∧ x1 ≤ 16)) (b2 : (0 ≤ x2 ∧ x2 ≤ 15)) (b3 : ((-2147483648) ≤ x3 ∧ x3 ≤ 2147483647)) (s1 : i1.toInt = x3)
    (k0 : ∀ (L' : am_L), x3 ≠ (-4) → (0 ≤ x1 ∧ x1 ≤ 16) → (0 ≤ x2 ∧ x2 ≤ 15) → ((-2147483648) ≤ x3 ∧ x3 ≤ (-5)) ∨ ((-3) ≤ x3 ∧ x3 ≤ 2147483647) → lc L' 0 122 → li L' 1 x1 → li L' 2 (x2 + 1) → am_V none d 180 8 L' ([]) S Q)
    (k1 : ∀ (L' : am_L) (i1 : Int32) (i2 : Int32), x3 = (-4) → (0 ≤ x1 ∧ x1 ≤ 16) → (0 ≤ x2 ∧ x2 ≤ 15) → ((-4) ≤ x3 ∧ x3 ≤ (-4)) → lc L' 0 122 → li L' 1 x1 → li L' 2 x2 → i1.toInt = 0 → i2.toInt = x2 → am_V none d 180 49 L' ((.int i1) :: (.int i2) :: (.ref 122) :: []) S Q) : am_V none d 180 41 L ((.int i1) :: []) S Q := by
  refine sg_use sg_ga_m3_g hd hP (sg_xs [0, x1, x2, x3]) ⟨⟨Int.le_refl 0, Int.le_refl 0⟩, b1, b2, b3, trivial⟩ trivial trivial trivial ⟨l0, l1, l2, trivial⟩ ⟨⟨_, rfl, s1⟩, trivial⟩ ?_
  intro z hz x' L' st' S' hx hP' hW hL' hs' hJ hE' hT' hD'
  have q1 : x' 1 = x1 := hx 1 (by decide)
  subst q1
  have q2 : x' 2 = x2 := hx 2 (by decide)
  subst q2
  have q3 : x' 3 = x3 := hx 3 (by decide)
  subst q3
  have eS : S' = S := hW.1 rfl
  subst eS
  simp only [sg_ga_m3_Z, List.mem_cons, List.not_mem_nil, or_false] at hz
  rcases hz with rfl | rfl
  · obtain ⟨f0, hσ⟩ := hJ
    obtain ⟨e0, e1, e2, -⟩ := hE'
    obtain ⟨p0, p1, p2, -⟩ := hL'
    obtain rfl := sg_tn hs'
    exact k0 L' f0 e0 e1 e2 p0 p1 p2
  · obtain ⟨f0, hσ⟩ := hJ
    obtain ⟨e0, e1, e2, -⟩ := hE'
    obtain ⟨p0, p1, p2, -⟩ := hL'
    obtain ⟨v1, r1, rfl, ⟨i1, rfl, g1⟩, hs1⟩ := sg_tc hs'
    obtain ⟨v2, r2, rfl, ⟨i2, rfl, g2⟩, hs2⟩ := sg_tc hs1
    obtain ⟨v3, r3, rfl, rfl, hs3⟩ := sg_tc hs2
    obtain rfl := sg_tn hs3
    exact k1 L' i1 i2 f0 e0 e1 e2 p0 p1 p2 g1 g2
def sg_ga_m5_Z : List sg_z := [(9, [(0, .inr (.inl [122])), (1, .inl (false, (1, .ofNat 1, .ofNat 0))), (2, .inl (false, (2, .ofNat 1, .ofNat 1)))], [], [], [(1, [(.ofNat 0, .ofNat 16)]), (2, [(.ofNat 0, .ofNat 15)])], [], [])]
set_option maxRecDepth 1000000 in
theorem sg_ga_m5_g : sg_go [] [8] 3000 180 76 0 3 [(0, [(.ofNat 0, .ofNat 0)]), (1, [(.ofNat 0, .ofNat 16)]), (2, [(.ofNat 0, .ofNat 15)])] [] [] [] [(0, .inr (.inl [122])), (1, .inl (false, (1, .ofNat 1, .ofNat 0))), (2, .inl (false, (2, .ofNat 1, .ofNat 0)))] [] [] sg_ga_m5_Z = true := by decide +kernel
set_option maxRecDepth 100000 in
theorem sg_ga_m5 {Q : Option Value × am_S → Prop} {d : Nat} {S : am_S} {L : am_L} {x1 x2 : Int} (hd : 0 ≤ d) (hP : ax_P0 none S) (l0 : lc L 0 122) (l1 : li L 1 x1) (l2 : li L 2 x2) (b1 : (0 ≤ x1 ∧ x1 ≤ 16)) (b2 : (0 ≤ x2 ∧ x2 ≤ 15))
    (k0 : ∀ (L' : am_L), (0 ≤ x1 ∧ x1 ≤ 16) → (0 ≤ x2 ∧ x2 ≤ 15) → lc L' 0 122 → li L' 1 x1 → li L' 2 (x2 + 1) → am_V none d 180 8 L' ([]) S Q) : am_V none d 180 76 L ([]) S Q := by
  refine sg_use sg_ga_m5_g hd hP (sg_xs [0, x1, x2]) ⟨⟨Int.le_refl 0, Int.le_refl 0⟩, b1, b2, trivial⟩ trivial trivial trivial ⟨l0, l1, l2, trivial⟩ trivial ?_
  intro z hz x' L' st' S' hx hP' hW hL' hs' hJ hE' hT' hD'
  have q1 : x' 1 = x1 := hx 1 (by decide)
  subst q1
  have q2 : x' 2 = x2 := hx 2 (by decide)
  subst q2
  have eS : S' = S := hW.1 rfl
  subst eS
  simp only [sg_ga_m5_Z, List.mem_cons, List.not_mem_nil, or_false] at hz
  rcases hz with rfl
  · have hσ := hJ
    obtain ⟨e0, e1, -⟩ := hE'
    obtain ⟨p0, p1, p2, -⟩ := hL'
    obtain rfl := sg_tn hs'
    exact k0 L' e0 e1 p0 p1 p2
def sg_ga_x1_Z : List sg_z := [(0, [], [.inl (false, (1, .ofNat 1, .ofNat 0))], [(2, 3, (2, .ofNat 1, .ofNat 0), (3, .ofNat 1, .ofNat 0), (0, .ofNat 0, .ofNat 0)), (0, 6, (0, .ofNat 0, .ofNat 0), (3, .ofNat 1, .ofNat 0), (0, .ofNat 0, .ofNat 0))], [(1, [(.ofNat 0, .ofNat 16)]), (2, [(.ofNat 0, .ofNat 16)]), (3, [(.ofNat 0, .ofNat 16)])], [], []),
  (44, [(0, .inr (.inl [0])), (1, .inl (false, (1, .ofNat 1, .ofNat 0))), (2, .inl (false, (2, .ofNat 1, .ofNat 0)))], [.inl (false, (2, .ofNat 1, .ofNat 0)), .inr (.inl [0])], [(2, 0, (0, .ofNat 0, .ofNat 0), (0, .ofNat 0, .ofNat 0), (0, .ofNat 0, .ofNat 0)), (2, 0, (4, .ofNat 1, .ofNat 0), (0, .ofNat 0, .negSucc 3), (0, .ofNat 0, .ofNat 0)), (0, 11, (2, .ofNat 1, .ofNat 0), (4, .ofNat 1, .ofNat 0), (0, .ofNat 0, .ofNat 0)), (2, 2, (2, .ofNat 1, .ofNat 0), (3, .ofNat 1, .ofNat 0), (0, .ofNat 0, .ofNat 0)), (0, 6, (0, .ofNat 0, .ofNat 0), (3, .ofNat 1, .ofNat 0), (0, .ofNat 0, .ofNat 0))], [(1, [(.ofNat 0, .ofNat 16)]), (2, [(.ofNat 0, .ofNat 15)]), (3, [(.ofNat 1, .ofNat 16)]), (4, [(.negSucc 3, .negSucc 3)])], [], []),
  (20, [(0, .inr (.inl [0])), (1, .inl (false, (1, .ofNat 1, .ofNat 0))), (2, .inl (false, (2, .ofNat 1, .ofNat 1)))], [], [(2, 1, (0, .ofNat 0, .ofNat 1), (0, .ofNat 0, .ofNat 0), (0, .ofNat 0, .ofNat 0)), (2, 1, (4, .ofNat 1, .ofNat 0), (0, .ofNat 0, .negSucc 3), (0, .ofNat 0, .ofNat 0)), (0, 11, (2, .ofNat 1, .ofNat 0), (4, .ofNat 1, .ofNat 0), (0, .ofNat 0, .ofNat 0)), (2, 2, (2, .ofNat 1, .ofNat 0), (3, .ofNat 1, .ofNat 0), (0, .ofNat 0, .ofNat 0)), (0, 6, (0, .ofNat 0, .ofNat 0), (3, .ofNat 1, .ofNat 0), (0, .ofNat 0, .ofNat 0))], [(1, [(.ofNat 0, .ofNat 16)]), (2, [(.ofNat 0, .ofNat 15)]), (3, [(.ofNat 1, .ofNat 16)]), (4, [(.ofNat 0, .ofNat 7)])], [], [])]
set_option maxRecDepth 1000000 in
theorem sg_ga_x1_g : sg_go [] [43, 19] 3000 106 19 1 3 [(0, [(.ofNat 0, .ofNat 0)]), (1, [(.ofNat 0, .ofNat 16)]), (2, [(.ofNat 0, .ofNat 16)])] [] [] [] [(0, .inr (.inl [0])), (1, .inl (false, (1, .ofNat 1, .ofNat 0))), (2, .inl (false, (2, .ofNat 1, .ofNat 0)))] [] [] sg_ga_x1_Z = true := by decide +kernel
set_option maxRecDepth 100000 in
theorem sg_ga_x1 {Q : Option Value × am_S → Prop} {d : Nat} {S : am_S} {L : am_L} {x1 x2 : Int} (hd : 1 ≤ d) (hP : ax_P0 none S) (l0 : lc L 0 0) (l1 : li L 1 x1) (l2 : li L 2 x2) (b1 : (0 ≤ x1 ∧ x1 ≤ 16)) (b2 : (0 ≤ x2 ∧ x2 ≤ 16))
    (k0 : ∀ (x3 : Int) (i1 : Int32), rd S 6 0 = x3 → x3 ≤ x2 → (0 ≤ x1 ∧ x1 ≤ 16) → (0 ≤ x2 ∧ x2 ≤ 16) → (0 ≤ x3 ∧ x3 ≤ 16) → i1.toInt = x1 → Q (some (.int i1), S))
    (k1 : ∀ (x3 x4 : Int) (L' : am_L) (i1 : Int32), rd S 6 0 = x3 → x2 < x3 → rd S 11 x2 = x4 → x4 = (-4) → (0 ≤ x1 ∧ x1 ≤ 16) → (0 ≤ x2 ∧ x2 ≤ 15) → (1 ≤ x3 ∧ x3 ≤ 16) → ((-4) ≤ x4 ∧ x4 ≤ (-4)) → lc L' 0 0 → li L' 1 x1 → li L' 2 x2 → i1.toInt = x2 → am_V none d 106 43 L' ((.int i1) :: (.ref 0) :: []) S Q)
    (k2 : ∀ (x3 x4 : Int) (L' : am_L), rd S 6 0 = x3 → x2 < x3 → rd S 11 x2 = x4 → x4 ≠ (-4) → (0 ≤ x1 ∧ x1 ≤ 16) → (0 ≤ x2 ∧ x2 ≤ 15) → (1 ≤ x3 ∧ x3 ≤ 16) → (0 ≤ x4 ∧ x4 ≤ 7) → lc L' 0 0 → li L' 1 x1 → li L' 2 (x2 + 1) → am_V none d 106 19 L' ([]) S Q) : am_V none d 106 19 L ([]) S Q := by
  refine sg_use sg_ga_x1_g hd hP (sg_xs [0, x1, x2]) ⟨⟨Int.le_refl 0, Int.le_refl 0⟩, b1, b2, trivial⟩ trivial trivial trivial ⟨l0, l1, l2, trivial⟩ trivial ?_
  intro z hz x' L' st' S' hx hP' hW hL' hs' hJ hE' hT' hD'
  have q1 : x' 1 = x1 := hx 1 (by decide)
  subst q1
  have q2 : x' 2 = x2 := hx 2 (by decide)
  subst q2
  have eS : S' = S := hW.1 rfl
  subst eS
  simp only [sg_ga_x1_Z, List.mem_cons, List.not_mem_nil, or_false] at hz
  rcases hz with rfl | rfl | rfl
  · obtain ⟨f0, f1, hσ⟩ := hJ
    obtain ⟨e0, e1, e2, -⟩ := hE'
    intro v hv
    subst hv
    cases v with
    | none => exact hs'.elim
    | some v1 =>
      obtain ⟨⟨i1, rfl, g1⟩, -⟩ := hs'
      exact k0 (x' 3) i1 f0 f1 e0 e1 e2 g1
  · obtain ⟨f0, f1, f2, f3, -, hσ⟩ := hJ
    obtain ⟨e0, e1, e2, e3, -⟩ := hE'
    obtain ⟨p0, p1, p2, -⟩ := hL'
    obtain ⟨v1, r1, rfl, ⟨i1, rfl, g1⟩, hs1⟩ := sg_tc hs'
    obtain ⟨v2, r2, rfl, rfl, hs2⟩ := sg_tc hs1
    obtain rfl := sg_tn hs2
    exact k1 (x' 3) (x' 4) L' i1 f0 f1 f2 f3 e0 e1 e2 e3 p0 p1 p2 g1
  · obtain ⟨f0, f1, f2, f3, -, hσ⟩ := hJ
    obtain ⟨e0, e1, e2, e3, -⟩ := hE'
    obtain ⟨p0, p1, p2, -⟩ := hL'
    obtain rfl := sg_tn hs'
    exact k2 (x' 3) (x' 4) L' f0 f1 f2 f3 e0 e1 e2 e3 p0 p1 p2
def sg_ga_x2_Z : List sg_z := [(20, [(0, .inr (.inl [0])), (1, .inl (false, (1, .ofNat 1, .ofNat 0))), (2, .inl (false, (2, .ofNat 1, .ofNat 1)))], [], [(2, 1, (3, .ofNat 1, .ofNat 0), (0, .ofNat 0, .ofNat 1), (0, .ofNat 0, .ofNat 0))], [(1, [(.ofNat 0, .ofNat 16)]), (2, [(.ofNat 0, .ofNat 15)]), (3, [(.ofNat 0, .ofNat 0), (.ofNat 2, .ofNat 64)])], [], []),
  (54, [(0, .inr (.inl [0])), (1, .inl (false, (1, .ofNat 1, .ofNat 0))), (2, .inl (false, (2, .ofNat 1, .ofNat 0)))], [.inl (false, (0, .ofNat 0, .ofNat 0)), .inl (false, (2, .ofNat 1, .ofNat 0)), .inr (.inl [0])], [(2, 0, (3, .ofNat 1, .ofNat 0), (0, .ofNat 0, .ofNat 1), (0, .ofNat 0, .ofNat 0))], [(1, [(.ofNat 0, .ofNat 16)]), (2, [(.ofNat 0, .ofNat 15)]), (3, [(.ofNat 1, .ofNat 1)])], [], [])]
set_option maxRecDepth 1000000 in
theorem sg_ga_x2_g : sg_go [] [53, 19] 3000 106 46 0 4 [(0, [(.ofNat 0, .ofNat 0)]), (1, [(.ofNat 0, .ofNat 16)]), (2, [(.ofNat 0, .ofNat 15)]), (3, [(.ofNat 0, .ofNat 64)])] [] [] [] [(0, .inr (.inl [0])), (1, .inl (false, (1, .ofNat 1, .ofNat 0))), (2, .inl (false, (2, .ofNat 1, .ofNat 0)))] [.inl (false, (3, .ofNat 1, .ofNat 0))] [] sg_ga_x2_Z = true := by decide +kernel
set_option maxRecDepth 100000 in
theorem sg_ga_x2 {Q : Option Value × am_S → Prop} {d : Nat} {S : am_S} {L : am_L} {x1 x2 x3 : Int} {i1 : Int32} (hd : 0 ≤ d) (hP : ax_P0 none S) (l0 : lc L 0 0) (l1 : li L 1 x1) (l2 : li L 2 x2) (b1 : (0 ≤ x1 ∧ x1 ≤ 16)) (b2 : (0 ≤ x2 ∧ x2 ≤ 15)) (b3 : (0 ≤ x3 ∧ x3 ≤ 64)) (s1 : i1.toInt = x3)
    (k0 : ∀ (L' : am_L), x3 ≠ 1 → (0 ≤ x1 ∧ x1 ≤ 16) → (0 ≤ x2 ∧ x2 ≤ 15) → (0 ≤ x3 ∧ x3 ≤ 0) ∨ (2 ≤ x3 ∧ x3 ≤ 64) → lc L' 0 0 → li L' 1 x1 → li L' 2 (x2 + 1) → am_V none d 106 19 L' ([]) S Q)
    (k1 : ∀ (L' : am_L) (i1 : Int32) (i2 : Int32), x3 = 1 → (0 ≤ x1 ∧ x1 ≤ 16) → (0 ≤ x2 ∧ x2 ≤ 15) → (1 ≤ x3 ∧ x3 ≤ 1) → lc L' 0 0 → li L' 1 x1 → li L' 2 x2 → i1.toInt = 0 → i2.toInt = x2 → am_V none d 106 53 L' ((.int i1) :: (.int i2) :: (.ref 0) :: []) S Q) : am_V none d 106 46 L ((.int i1) :: []) S Q := by
  refine sg_use sg_ga_x2_g hd hP (sg_xs [0, x1, x2, x3]) ⟨⟨Int.le_refl 0, Int.le_refl 0⟩, b1, b2, b3, trivial⟩ trivial trivial trivial ⟨l0, l1, l2, trivial⟩ ⟨⟨_, rfl, s1⟩, trivial⟩ ?_
  intro z hz x' L' st' S' hx hP' hW hL' hs' hJ hE' hT' hD'
  have q1 : x' 1 = x1 := hx 1 (by decide)
  subst q1
  have q2 : x' 2 = x2 := hx 2 (by decide)
  subst q2
  have q3 : x' 3 = x3 := hx 3 (by decide)
  subst q3
  have eS : S' = S := hW.1 rfl
  subst eS
  simp only [sg_ga_x2_Z, List.mem_cons, List.not_mem_nil, or_false] at hz
  rcases hz with rfl | rfl
  · obtain ⟨f0, hσ⟩ := hJ
    obtain ⟨e0, e1, e2, -⟩ := hE'
    obtain ⟨p0, p1, p2, -⟩ := hL'
    obtain rfl := sg_tn hs'
    exact k0 L' f0 e0 e1 e2 p0 p1 p2
  · obtain ⟨f0, hσ⟩ := hJ
    obtain ⟨e0, e1, e2, -⟩ := hE'
    obtain ⟨p0, p1, p2, -⟩ := hL'
    obtain ⟨v1, r1, rfl, ⟨i1, rfl, g1⟩, hs1⟩ := sg_tc hs'
    obtain ⟨v2, r2, rfl, ⟨i2, rfl, g2⟩, hs2⟩ := sg_tc hs1
    obtain ⟨v3, r3, rfl, rfl, hs3⟩ := sg_tc hs2
    obtain rfl := sg_tn hs3
    exact k1 L' i1 i2 f0 e0 e1 e2 p0 p1 p2 g1 g2
def sg_ga_x3_Z : List sg_z := [(20, [(0, .inr (.inl [0])), (1, .inl (false, (1, .ofNat 1, .ofNat 1))), (2, .inl (false, (2, .ofNat 1, .ofNat 1))), (3, .inl (false, (3, .ofNat 1, .ofNat 0)))], [], [(1, 12, (2, .ofNat 1, .ofNat 0), (5, .ofNat 1, .ofNat 0), (0, .ofNat 0, .ofNat 0)), (1, 11, (2, .ofNat 1, .ofNat 0), (4, .ofNat 1, .ofNat 0), (0, .ofNat 0, .ofNat 0)), (3, 2, (3, .ofNat 1, .ofNat 0), (0, .ofNat 0, .ofNat 8), (5, .ofNat 1, .ofNat 0)), (3, 1, (3, .ofNat 1, .ofNat 0), (0, .ofNat 0, .ofNat 8), (4, .ofNat 1, .ofNat 0))], [(1, [(.ofNat 0, .ofNat 15)]), (2, [(.ofNat 0, .ofNat 15)]), (3, [(.ofNat 0, .ofNat 63)]), (4, [(.ofNat 0, .ofNat 7)]), (5, [(.ofNat 0, .ofNat 7)])], [], [])]
set_option maxRecDepth 1000000 in
theorem sg_ga_x3_g : sg_go [] [19] 3000 106 56 1 4 [(0, [(.ofNat 0, .ofNat 0)]), (1, [(.ofNat 0, .ofNat 15)]), (2, [(.ofNat 0, .ofNat 15)]), (3, [(.ofNat 0, .ofNat 63)])] [] [] [] [(0, .inr (.inl [0])), (1, .inl (false, (1, .ofNat 1, .ofNat 0))), (2, .inl (false, (2, .ofNat 1, .ofNat 0)))] [.inl (false, (3, .ofNat 1, .ofNat 0))] [(11, none), (12, none)] sg_ga_x3_Z = true := by decide +kernel
set_option maxRecDepth 100000 in
theorem sg_ga_x3 {Q : Option Value × am_S → Prop} {d : Nat} {S : am_S} {L : am_L} {x1 x2 x3 : Int} {i1 : Int32} (hd : 1 ≤ d) (hP : ax_P0 none S) (l0 : lc L 0 0) (l1 : li L 1 x1) (l2 : li L 2 x2) (b1 : (0 ≤ x1 ∧ x1 ≤ 15)) (b2 : (0 ≤ x2 ∧ x2 ≤ 15)) (b3 : (0 ≤ x3 ∧ x3 ≤ 63)) (s1 : i1.toInt = x3)
    (k0 : ∀ (x4 x5 : Int) (L' : am_L) (S' : am_S), ax_P0 none S' → rd S' = sg_up (sg_up (rd S) 11 x2 x4) 12 x2 x5 → (∃ a b : Int32, a.toInt = x3 ∧ b.toInt = 8 ∧ (a / b).toInt = x4) → (∃ a b : Int32, a.toInt = x3 ∧ b.toInt = 8 ∧ (a - a / b * b).toInt = x5) → (0 ≤ x1 ∧ x1 ≤ 15) → (0 ≤ x2 ∧ x2 ≤ 15) → (0 ≤ x3 ∧ x3 ≤ 63) → (0 ≤ x4 ∧ x4 ≤ 7) → (0 ≤ x5 ∧ x5 ≤ 7) → lc L' 0 0 → li L' 1 (x1 + 1) → li L' 2 (x2 + 1) → li L' 3 x3 → am_V none d 106 19 L' ([]) S' Q) : am_V none d 106 56 L ((.int i1) :: []) S Q := by
  refine sg_use sg_ga_x3_g hd hP (sg_xs [0, x1, x2, x3]) ⟨⟨Int.le_refl 0, Int.le_refl 0⟩, b1, b2, b3, trivial⟩ trivial trivial trivial ⟨l0, l1, l2, trivial⟩ ⟨⟨_, rfl, s1⟩, trivial⟩ ?_
  intro z hz x' L' st' S' hx hP' hW hL' hs' hJ hE' hT' hD'
  have q1 : x' 1 = x1 := hx 1 (by decide)
  subst q1
  have q2 : x' 2 = x2 := hx 2 (by decide)
  subst q2
  have q3 : x' 3 = x3 := hx 3 (by decide)
  subst q3
  simp only [sg_ga_x3_Z, List.mem_cons, List.not_mem_nil, or_false] at hz
  rcases hz with rfl
  · obtain ⟨f0, f1, hσ⟩ := hJ
    obtain ⟨e0, e1, e2, e3, e4, -⟩ := hE'
    obtain ⟨p0, p1, p2, p3, -⟩ := hL'
    obtain rfl := sg_tn hs'
    exact k0 (x' 4) (x' 5) L' S' hP' hσ f0 f1 e0 e1 e2 e3 e4 p0 p1 p2 p3
